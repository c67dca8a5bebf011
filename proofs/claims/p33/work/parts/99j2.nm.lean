/-! nearest: the reference -/
def y_gpp (s : z_M) (k d i : Int) : Int := y_pf (y_kl s k d) (s (3452 + k) 2) (s 3442 (s (3452 + k) 0)) i
abbrev y_mn (s : z_M) (d : Int) : Int → Int := fun k => y_kl s k d
abbrev y_m0 (s : z_M) (d : Int) : Int → Int := fun k => y_gpp s k d 0
abbrev y_m1 (s : z_M) (d : Int) : Int → Int := fun k => y_gpp s k d (y_kl s k d - 1)
abbrev y_bm (s : z_M) (l : Int) : Int := y_bn (y_dm s) (s 3438) l
abbrev y_Lk (s : z_M) (k : Int) : Int := s 3441 (s (3452 + k) 0)
theorem em_gp {fu : Nat} (hfu : 8589934592 ≤ fu) {s : z_M} (ok : y_OKy s) (lm : y_LBm (y_dm s) s) {k d i : Int} (h0 : 0 ≤ k) (h1 : k < s 309 58) (h2 : k < 200) (hd : d = 0 ∨ d = 1) (hn : 0 < y_kl s k d) : fX12_letterPlace fu s 309 k d i = some (vI (y_gpp s k d i), s) := em_letterPlace hfu ok lm h0 h1 h2 hd hn
theorem y_LBm.r1 {D s : z_M} (h : y_LBm D s) {l : Int} (l0 : 0 ≤ l) (l1 : l < s 309 44) : 0 ≤ s 3438 l ∧ s 3438 l < s 3438 (l + 1) ∧ s 3438 (l + 1) ≤ s 309 20 := by
  obtain ⟨nx, cc, ls, _⟩ := h
  exact ls.at l0 (by have := ls.2.2.1; omega)
theorem y_LBm.e58 {D s : z_M} (h : y_LBm D s) : s 309 58 = y_bn D (s 3438) (s 309 44) := by
  obtain ⟨nx, cc, ls, ly, l58⟩ := h
  exact l58
theorem y_LBm.mono {s : z_M} (h : y_LBm (y_dm s) s) : ∀ (m : Nat) (l l' : Int), (m : Int) = l' - l → 0 ≤ l → l' ≤ s 309 44 → y_bm s l ≤ y_bm s l' := by
  intro m
  induction m with
  | zero =>
    intro l l' e _ _
    rw [show l' = l by omega]
    exact Int.le_refl _
  | succ m ih =>
    intro l l' e h0 h1
    have a := ih l (l' - 1) (by omega) h0 (by omega)
    have rr := h.r1 (l := l' - 1) (by omega) (by omega)
    have bs := y_bi_s (D := y_dm s) (r := s 3438) (l := l' - 1) (by omega)
    have nb := y_ns_b (D := y_dm s) (a := s 3438 (l' - 1)) (u := s 3438 (l' - 1 + 1)) (by omega)
    rw [show l' - 1 + 1 = l' by omega] at bs nb
    unfold y_bm at *
    omega
/-- the line of a block, by number -/
theorem y_LBm.lk {s : z_M} (ok : y_OKy s) (h : y_LBm (y_dm s) s) {k : Int} (h0 : 0 ≤ k) (h1 : k < s 309 58) : (0 ≤ y_Lk s k ∧ y_Lk s k < s 309 44) ∧ y_bm s (y_Lk s k) ≤ k ∧ k < y_bm s (y_Lk s k + 1) ∧ y_bm s (y_Lk s k + 1) ≤ s 309 58 := by
  obtain ⟨l, f, z, l01, r1, ⟨b0, b1, _⟩, bl, k7, ⟨m1, _⟩, ek, eb⟩ := h.bk ok h0 h1
  have e : y_Lk s k = l := by
    show s 3441 (s (3452 + k) 0) = l
    rw [b0, m1]
  rw [e]
  have nb := y_ns_b (D := y_dm s) (a := s 3438 l) (u := f) (by omega)
  have ns := y_suS (f := y_sdd (y_dm s) (s 3438 l)) (a := s 3438 l) (u := f) (by omega)
  have s1 : y_sdd (y_dm s) (s 3438 l) f = 1 := by
    unfold y_sdd
    rw [if_pos bl.2.2.2.1]
  have le := y_ns_le (D := y_dm s) (a := s 3438 l) (u := f + 1) (v := s 3438 (l + 1)) (by omega) (by omega)
  have mo := h.mono (s 309 44 - (l + 1)).toNat (l + 1) (s 309 44) (by omega) (by omega) (Int.le_refl _)
  have e58 := h.e58
  unfold y_bm y_ns at *
  refine ⟨l01, by omega, by omega, by omega⟩
theorem y_LBm.lu {s : z_M} (ok : y_OKy s) (h : y_LBm (y_dm s) s) {k l : Int} (h0 : 0 ≤ k) (h1 : k < s 309 58) (l0 : 0 ≤ l) (l1 : l < s 309 44) (p : y_bm s l ≤ k) (q : k < y_bm s (l + 1)) : y_Lk s k = l := by
  obtain ⟨a, b, c, d⟩ := h.lk ok h0 h1
  rcases Int.lt_trichotomy (y_Lk s k) l with r | r | r
  · have := h.mono (l - (y_Lk s k + 1)).toNat (y_Lk s k + 1) l (by omega) (by omega) (by omega)
    omega
  · exact r
  · have := h.mono (y_Lk s k - (l + 1)).toNat (l + 1) (y_Lk s k) (by omega) (by omega) (by omega)
    omega
theorem y_LBm.lm {s : z_M} (ok : y_OKy s) (h : y_LBm (y_dm s) s) {k k' : Int} (h0 : 0 ≤ k) (h1 : k ≤ k') (h2 : k' < s 309 58) : y_Lk s k ≤ y_Lk s k' := by
  obtain ⟨a, b, c, _⟩ := h.lk ok h0 (by omega)
  obtain ⟨a', b', c', _⟩ := h.lk ok (k := k') (by omega) h2
  by_cases r : y_Lk s k ≤ y_Lk s k'
  · exact r
  · have := h.mono (y_Lk s k - (y_Lk s k' + 1)).toNat (y_Lk s k' + 1) (y_Lk s k) (by omega) (by omega) (by omega)
    omega
/-- all that is needed of a block -/
theorem y_LBm.gb {s : z_M} (ok : y_OKy s) (h : y_LBm (y_dm s) s) {k d : Int} (h0 : 0 ≤ k) (h1 : k < s 309 58) (hd : d = 0 ∨ d = 1) : (0 ≤ y_kl s k d ∧ y_kl s k d ≤ 3000) ∧ ∀ i : Int, 0 ≤ i → i < y_kl s k d → -600000000 ≤ y_gpp s k d i ∧ y_gpp s k d i ≤ 600000000 := by
  have kb := y_kl_b ok h h0 h1 hd
  obtain ⟨l, f, z, l01, r1, ⟨b0, b1, b2⟩, bl, k7, ⟨m1, m2⟩, ek, eb⟩ := h.bk ok h0 h1
  have nn := ok.1.1.1
  have pl := y_pl_b (E := y_me (y_dm s) (s 312 7) (s 309 20)) (Q := y_qm s) (u := f) (a := s 3438 l) (b := s 3438 (l + 1) - 1) ok.1.2.1 r1.1 (by omega) nn.2 (by rw [y_qm1]; exact ok.1.2.2.2) (by rw [y_qm2]; exact ok.2.2.2.2) ⟨by omega, by omega⟩
  have w1 := y_sum_r (f := y_dm s 1) (a := f) (m := 2400) (z - f + 1).toNat (fun i p q => (ok.1.2.1 i (by omega) (by omega)).2.1)
  refine ⟨kb, fun i p q => ?_⟩
  unfold y_gpp
  rw [b0, m2, b2]
  exact y_pf_b (by omega) ⟨p, q⟩ (by omega) pl
/-- a pair that begins with block k -/
def y_nk (s : z_M) (k d v : Int) : Prop := ∃ e : Int, k < e ∧ e < y_bm s (y_Lk s k + 1) ∧ 0 < y_kl s k d ∧ 0 < y_kl s e d ∧ (∀ j : Int, k < j → j < e → y_kl s j d ≤ 0) ∧ v = y_gpp s e d 0 - y_gpp s k d (y_kl s k d - 1) - 6
theorem em_next {fu : Nat} (hfu : 8589934592 ≤ fu) {s : z_M} (ok : y_OKy s) (lm : y_LBm (y_dm s) s) (h58 : s 309 58 ≤ 200) {k d : Int} (h0 : 0 ≤ k) (h1 : k < s 309 58) (hd : d = 0 ∨ d = 1) : z_T (fX12_nextBlock fu s 309 k d) (fun v s' => s' = s ∧ ∃ e, v = vI e ∧ ((e = -1 ∧ ∀ j : Int, k < j → j < y_bm s (y_Lk s k + 1) → y_kl s j d ≤ 0) ∨ (k < e ∧ e < y_bm s (y_Lk s k + 1) ∧ 0 < y_kl s e d ∧ ∀ j : Int, k < j → j < e → y_kl s j d ≤ 0))) := by
  have lk := lm.lk ok h0 h1
  have go : ∀ (m F : Nat) (b : Int), (m : Int) = s 309 58 - b → m < F → k < b → b ≤ y_bm s (y_Lk s k + 1) → (∀ j : Int, k < j → j < b → y_kl s j d ≤ 0) → z_T (fX12_nextBlock_L4 fu 309 k d F s b (fun s10 => fX12_nextBlock_J42 fu s10)) (fun v s' => s' = s ∧ ∃ e, v = vI e ∧ ((e = -1 ∧ ∀ j : Int, k < j → j < y_bm s (y_Lk s k + 1) → y_kl s j d ≤ 0) ∨ (k < e ∧ e < y_bm s (y_Lk s k + 1) ∧ 0 < y_kl s e d ∧ ∀ j : Int, k < j → j < e → y_kl s j d ≤ 0))) := by
    have no : ∀ b : Int, y_bm s (y_Lk s k + 1) ≤ b → (∀ j : Int, k < j → j < b → y_kl s j d ≤ 0) → z_T (fX12_nextBlock_J42 fu s) (fun v s' => s' = s ∧ ∃ e, v = vI e ∧ ((e = -1 ∧ ∀ j : Int, k < j → j < y_bm s (y_Lk s k + 1) → y_kl s j d ≤ 0) ∨ (k < e ∧ e < y_bm s (y_Lk s k + 1) ∧ 0 < y_kl s e d ∧ ∀ j : Int, k < j → j < e → y_kl s j d ≤ 0))) := fun b p g => by
      refine T_of (fX12_nextBlock_J42.eq_1 ..) ?_
      exact T_ret ⟨rfl, -1, rfl, Or.inl ⟨rfl, fun j q r => g j q (by omega)⟩⟩
    intro m
    induction m with
    | zero =>
      intro F b e hF h2 h3 g
      obtain ⟨F, rfl⟩ : ∃ F2, F = F2 + 1 := ⟨F - 1, by omega⟩
      refine T_of (fX12_nextBlock_L4.eq_2 ..) ?_
      refine T_if1 v_ob309 ?_
      refine T_let (s 309 58) rfl ?_
      refine T_if1 (by omega) ?_
      exact no b (by omega) g
    | succ m ih =>
      intro F b e hF h2 h3 g
      obtain ⟨F, rfl⟩ : ∃ F2, F = F2 + 1 := ⟨F - 1, by omega⟩
      have lb := lm.lk ok (k := b) (by omega) (by omega)
      refine T_of (fX12_nextBlock_L4.eq_2 ..) ?_
      refine T_if1 v_ob309 ?_
      refine T_let (s 309 58) rfl ?_
      refine T_if0 (by omega) ?_
      refine T_if1 v_ob309 ?_
      refine T_bI (T_of (em_lineOfBlock ok lm (by omega) (by omega) (by omega)) (T_rI ?_))
      refine T_if1 v_ob309 ?_
      refine T_bI (T_of (em_lineOfBlock ok lm (by omega) (by omega) (by omega)) (T_rI ?_))
      refine T_ite (fun hL => ?_) (fun hL => ?_)
      · refine no b ?_ g
        by_cases r : b < y_bm s (y_Lk s k + 1)
        · exact absurd (lm.lu ok (k := b) (by omega) (by omega) lk.1.1 lk.1.2 (by omega) r) hL
        · omega
      · refine T_if1 v_ob309 ?_
        refine T_bI (T_of (em_lettersIn hfu ok lm (by omega) (by omega) (by omega) hd) (T_rI ?_))
        refine T_ite (fun hN => ?_) (fun hN => ?_)
        · refine T_let (b + 1) (v_wid (by omega)) ?_
          have r : b < y_bm s (y_Lk s k + 1) := by
            have q : y_Lk s b = y_Lk s k := Decidable.not_not.mp hL
            rw [q] at lb
            exact lb.2.2.1
          refine ih F (b + 1) (by omega) (by omega) (by omega) (by omega) (fun j p q => ?_)
          by_cases z : j = b
          · rw [z]; exact hN
          · exact g j p (by omega)
        · have r : b < y_bm s (y_Lk s k + 1) := by
            have q : y_Lk s b = y_Lk s k := Decidable.not_not.mp hL
            rw [q] at lb
            exact lb.2.2.1
          exact T_ret ⟨rfl, b, rfl, Or.inr ⟨h2, r, by omega, g⟩⟩
  refine T_of (fX12_nextBlock.eq_1 ..) ?_
  refine T_let (k + 1) (v_wid (by omega)) ?_
  exact go (s 309 58 - (k + 1)).toNat fu (k + 1) (by omega) (by omega) (by omega) (by omega) (fun j p q => by omega)
/-- ahead of side d of block k -/
abbrev y_bf (k d k' d' : Int) : Prop := 0 ≤ k' ∧ (k' < k ∨ (k' = k ∧ d' < d)) ∧ (d' = 0 ∨ d' = 1)
def y_Nk (s : z_M) (k d v x : Int) : Prop := (v = -1 ∧ x = 999 ∧ ∀ k' d' u : Int, y_bf k d k' d' → ¬ y_nk s k' d' u) ∨ (0 ≤ v ∧ (∃ k' d' : Int, y_bf k d k' d' ∧ y_nk s k' d' x ∧ v = y_Lk s k') ∧ ∀ k' d' u : Int, y_bf k d k' d' → y_nk s k' d' u → x ≤ u ∧ (u = x → v ≤ y_Lk s k'))
theorem y_Nk.n {s : z_M} {k d v x : Int} (h : y_Nk s k d v x) (hk : 0 ≤ k) (hd : d = 0 ∨ d = 1) (no : ∀ u : Int, ¬ y_nk s k d u) : y_Nk s k (d + 1) v x := by
  have key : ∀ k' d' u : Int, y_bf k (d + 1) k' d' → y_nk s k' d' u → y_bf k d k' d' := fun k' d' u b n => by
    by_cases z : k' = k ∧ d' = d
    · obtain ⟨rfl, rfl⟩ := z
      exact absurd n (no u)
    · unfold y_bf at *
      omega
  rcases h with ⟨a, b, c⟩ | ⟨a, ⟨k1, d1, b1, b2, b3⟩, c⟩
  · exact Or.inl ⟨a, b, fun k' d' u p n => c k' d' u (key k' d' u p n) n⟩
  · exact Or.inr ⟨a, ⟨k1, d1, by unfold y_bf at *; omega, b2, b3⟩, fun k' d' u p n => c k' d' u (key k' d' u p n) n⟩
theorem y_nk_1 {s : z_M} {k d u u' : Int} (h : y_nk s k d u) (h' : y_nk s k d u') : u = u' := by
  obtain ⟨e, a1, a2, a3, a4, a5, a6⟩ := h
  obtain ⟨e', b1, b2, b3, b4, b5, b6⟩ := h'
  have ee : e = e' := by
    rcases Int.lt_trichotomy e e' with z | z | z
    · have := b5 e a1 z
      omega
    · exact z
    · have := a5 e' b1 z
      omega
  rw [a6, b6, ee]
theorem y_Nk.y {s : z_M} {k d v x y : Int} (h : y_Nk s k d v x) (hk : 0 ≤ k) (hd : d = 0 ∨ d = 1) (hl : 0 ≤ y_Lk s k) (is : y_nk s k d y) (mo : ∀ k' : Int, 0 ≤ k' → k' ≤ k → y_Lk s k' ≤ y_Lk s k) : (v = -1 ∨ y < x → y_Nk s k (d + 1) (y_Lk s k) y) ∧ (v ≠ -1 → ¬ y < x → y_Nk s k (d + 1) v x) := by
  have sp : ∀ k' d' : Int, y_bf k (d + 1) k' d' → (k' = k ∧ d' = d) ∨ y_bf k d k' d' := fun k' d' b => by
    unfold y_bf at *
    omega
  constructor
  · intro r
    refine Or.inr ⟨hl, ⟨k, d, by unfold y_bf; omega, is, rfl⟩, fun k' d' u b n => ?_⟩
    rcases sp k' d' b with ⟨rfl, rfl⟩ | b'
    · have := y_nk_1 n is
      exact ⟨by omega, fun _ => Int.le_refl _⟩
    · rcases h with ⟨_, _, c⟩ | ⟨a, _, c⟩
      · exact absurd n (c k' d' u b')
      · have := (c k' d' u b' n).1
        omega
  · intro r q
    rcases h with ⟨a, _⟩ | ⟨a, ⟨k1, d1, b1, b2, b3⟩, c⟩
    · exact absurd a r
    · refine Or.inr ⟨a, ⟨k1, d1, by unfold y_bf at *; omega, b2, b3⟩, fun k' d' u b n => ?_⟩
      rcases sp k' d' b with ⟨rfl, rfl⟩ | b'
      · have e := y_nk_1 n is
        exact ⟨by omega, fun _ => by rw [b3]; exact mo k1 b1.1 (by unfold y_bf at b1; omega)⟩
      · exact c k' d' u b' n
theorem em_neD {fu : Nat} (hfu : 8589934592 ≤ fu) {s : z_M} (ok : y_OKy s) (lm : y_LBm (y_dm s) s) (h58 : s 309 58 ≤ 200) {q k : Int} (h0 : 0 ≤ k) (h1 : k < s 309 58) {kont : z_M → Int → Int → z_O} {P : z_V → z_M → Prop} (kk : ∀ v x : Int, y_Nk s k 2 v x → z_T (kont s v x) P) : ∀ (m F : Nat) (v x d : Int), (m : Int) = 2 - d → m < F → 0 ≤ d → y_Nk s k d v x → z_T (fX12_nearest_L55 fu 309 q k F s v x d kont) P := by
  have lk := lm.lk ok h0 h1
  intro m
  induction m with
  | zero =>
    intro F v x d e hF h2 g
    obtain ⟨F, rfl⟩ : ∃ F2, F = F2 + 1 := ⟨F - 1, by omega⟩
    have ed : d = 2 := by omega
    subst ed
    refine T_of (fX12_nearest_L55.eq_2 ..) ?_
    refine T_if1 (by decide) ?_
    exact kk v x g
  | succ m ih =>
    intro F v x d e hF h2 g
    obtain ⟨F, rfl⟩ : ∃ F2, F = F2 + 1 := ⟨F - 1, by omega⟩
    have hd : d = 0 ∨ d = 1 := by omega
    have gb := lm.gb ok h0 h1 hd
    refine T_of (fX12_nearest_L55.eq_2 ..) ?_
    refine T_if0 (by omega) ?_
    refine T_if1 v_ob309 ?_
    refine T_bI (T_of (em_lettersIn hfu ok lm h0 h1 (by omega) hd) (T_rI ?_))
    refine T_ite (fun hN => ?_) (fun hN => ?_)
    · refine T_if1 v_ob309 ?_
      refine T_useI (em_next hfu ok lm h58 h0 h1 hd) (fun v1 s1 hq => ?_)
      obtain ⟨e0, ev, rfl, he⟩ := hq
      have e0 := e0.symm
      subst e0
      refine T_vI ?_
      refine T_of (fX12_nearest_J88.eq_1 ..) ?_
      refine T_ite (fun hV => ?_) (fun hV => ?_)
      · rcases he with ⟨e1, _⟩ | ⟨e1, e2, e3, e4⟩
        · exact absurd e1 hV
        have lv := lm.gb ok (k := ev) (by omega) (by omega) hd
        have q0 := lv.2 0 (Int.le_refl _) e3
        have q1 := gb.2 (y_kl s k d - 1) (by omega) (by omega)
        have is : y_nk s k d (y_gpp s ev d 0 - y_gpp s k d (y_kl s k d - 1) - 6) := ⟨ev, e1, e2, by omega, e3, e4, rfl⟩
        have st := g.y h0 hd lk.1.1 is (fun k1 p r => lm.lm ok p r h1)
        refine T_if1 v_ob309 ?_
        refine T_bI (T_of (em_gp hfu ok lm (by omega) (by omega) (by omega) hd e3) (T_rI ?_))
        refine T_let ((y_kl s k d) - 1) (v_wid (by omega)) ?_
        refine T_if1 v_ob309 ?_
        refine T_bI (T_of (em_gp hfu ok lm h0 h1 (by omega) hd (by omega)) (T_rI ?_))
        refine T_let ((y_gpp s ev d 0) - (y_gpp s k d ((y_kl s k d) - 1))) (v_wid (by omega)) ?_
        refine T_let (((y_gpp s ev d 0) - (y_gpp s k d ((y_kl s k d) - 1))) - 6) (v_wid (by omega)) ?_
        refine T_ite (fun hF => ?_) (fun hF => ?_)
        · refine T_of (fX12_nearest_J140.eq_1 ..) ?_
          refine T_if1 v_ob309 ?_
          refine T_bI (T_of (em_lineOfBlock ok lm (by omega) (by omega) (by omega)) (T_rI ?_))
          refine T_of (fX12_nearest_J150.eq_1 ..) ?_
          refine T_let (d + 1) (v_wid (by omega)) ?_
          exact ih F _ _ (d + 1) (by omega) (by omega) (by omega) (st.1 (Or.inl hF))
        · refine T_ite (fun hX => ?_) (fun hX => ?_)
          · refine T_of (fX12_nearest_J140.eq_1 ..) ?_
            refine T_if1 v_ob309 ?_
            refine T_bI (T_of (em_lineOfBlock ok lm (by omega) (by omega) (by omega)) (T_rI ?_))
            refine T_of (fX12_nearest_J150.eq_1 ..) ?_
            refine T_let (d + 1) (v_wid (by omega)) ?_
            exact ih F _ _ (d + 1) (by omega) (by omega) (by omega) (st.1 (Or.inr hX))
          · refine T_of (fX12_nearest_J150.eq_1 ..) ?_
            refine T_let (d + 1) (v_wid (by omega)) ?_
            exact ih F v x (d + 1) (by omega) (by omega) (by omega) (st.2 hF hX)
      · refine T_of (fX12_nearest_J150.eq_1 ..) ?_
        refine T_let (d + 1) (v_wid (by omega)) ?_
        rcases he with ⟨_, e2⟩ | ⟨e1, e2, e3, e4⟩
        · exact ih F v x (d + 1) (by omega) (by omega) (by omega) (g.n h0 hd (fun u n => by obtain ⟨z, n1, n2, _, n3, _⟩ := n; have := e2 z n1 n2; omega))
        · omega
    · refine T_of (fX12_nearest_J88.eq_1 ..) ?_
      refine T_if0 (by decide) ?_
      refine T_of (fX12_nearest_J150.eq_1 ..) ?_
      refine T_let (d + 1) (v_wid (by omega)) ?_
      exact ih F v x (d + 1) (by omega) (by omega) (by omega) (g.n h0 hd (fun u n => by obtain ⟨_, _, _, n, _⟩ := n; omega))
theorem y_Nk.up {s : z_M} {k v x : Int} (h : y_Nk s k 2 v x) : y_Nk s (k + 1) 0 v x := by
  have key : ∀ k' d' : Int, y_bf (k + 1) 0 k' d' ↔ y_bf k 2 k' d' := fun k' d' => by
    unfold y_bf
    omega
  rcases h with ⟨a, b, c⟩ | ⟨a, ⟨k1, d1, b1, b2, b3⟩, c⟩
  · exact Or.inl ⟨a, b, fun k' d' u p n => c k' d' u ((key k' d').mp p) n⟩
  · exact Or.inr ⟨a, ⟨k1, d1, (key k1 d1).mpr b1, b2, b3⟩, fun k' d' u p n => c k' d' u ((key k' d').mp p) n⟩
theorem em_neK {fu : Nat} (hfu : 8589934592 ≤ fu) {s : z_M} (ok : y_OKy s) (lm : y_LBm (y_dm s) s) (h58 : 0 ≤ s 309 58 ∧ s 309 58 ≤ 200) {q : Int} {kont : z_M → Int → Int → z_O} {P : z_V → z_M → Prop} (kk : ∀ v x : Int, y_Nk s (s 309 58) 0 v x → z_T (kont s v x) P) : ∀ (m F : Nat) (v x k : Int), (m : Int) = s 309 58 - k → m < F → 0 ≤ k → y_Nk s k 0 v x → z_T (fX12_nearest_L43 fu 309 q F s v x k kont) P := by
  intro m
  induction m with
  | zero =>
    intro F v x k e hF h2 g
    obtain ⟨F, rfl⟩ : ∃ F2, F = F2 + 1 := ⟨F - 1, by omega⟩
    have ek : k = s 309 58 := by omega
    rw [ek] at g
    refine T_of (fX12_nearest_L43.eq_2 ..) ?_
    refine T_if1 v_ob309 ?_
    refine T_let (s 309 58) rfl ?_
    refine T_if1 (by omega) ?_
    exact kk v x g
  | succ m ih =>
    intro F v x k e hF h2 g
    obtain ⟨F, rfl⟩ : ∃ F2, F = F2 + 1 := ⟨F - 1, by omega⟩
    refine T_of (fX12_nearest_L43.eq_2 ..) ?_
    refine T_if1 v_ob309 ?_
    refine T_let (s 309 58) rfl ?_
    refine T_if0 (by omega) ?_
    refine em_neD hfu ok lm h58.2 h2 (by omega) (fun v1 x1 g1 => ?_) 2 fu v x 0 (by omega) (by omega) (Int.le_refl _) g
    refine T_let (k + 1) (v_wid (by omega)) ?_
    exact ih F v1 x1 (k + 1) (by omega) (by omega) (by omega) g1.up
/-- a line has such a pair of the reference's blocks -/
def y_mP (s : z_M) (l v : Int) : Prop := y_np (y_mn s 0) (y_m0 s 0) (y_m1 s 0) (y_bm s l) (y_bm s (l + 1)) v ∨ y_np (y_mn s 1) (y_m0 s 1) (y_m1 s 1) (y_bm s l) (y_bm s (l + 1)) v
theorem y_mP_nk {s : z_M} (ok : y_OKy s) (lm : y_LBm (y_dm s) s) {l v : Int} (l0 : 0 ≤ l) (l1 : l < s 309 44) : y_mP s l v ↔ ∃ k d : Int, y_bf (s 309 58) 0 k d ∧ y_Lk s k = l ∧ y_nk s k d v := by
  have m0 := lm.mono l.toNat 0 l (by omega) (Int.le_refl _) (by omega)
  have z0 : y_bm s 0 = 0 := y_su0
  have m1 := lm.mono (s 309 44 - (l + 1)).toNat (l + 1) (s 309 44) (by omega) (by omega) (Int.le_refl _)
  have e58 : s 309 58 = y_bm s (s 309 44) := lm.e58
  have go : ∀ d : Int, (d = 0 ∨ d = 1) → y_np (y_mn s d) (y_m0 s d) (y_m1 s d) (y_bm s l) (y_bm s (l + 1)) v → ∃ k d : Int, y_bf (s 309 58) 0 k d ∧ y_Lk s k = l ∧ y_nk s k d v := by
    rintro d hd ⟨k, e, h1, h2, h3, h4, h5, h6, h7⟩
    have el := lm.lu ok (k := k) (l := l) (by omega) (by omega) l0 l1 h1 (by omega)
    refine ⟨k, d, by unfold y_bf; omega, el, e, h2, ?_, h4, h5, h6, h7⟩
    rw [el]
    exact h3
  constructor
  · intro r
    rcases r with r | r
    · exact go 0 (Or.inl rfl) r
    · exact go 1 (Or.inr rfl) r
  · rintro ⟨k, d, b, rfl, e, h2, h3, h4, h5, h6, h7⟩
    have lk := lm.lk ok (k := k) b.1 (by unfold y_bf at b; omega)
    have mk : y_np (y_mn s d) (y_m0 s d) (y_m1 s d) (y_bm s (y_Lk s k)) (y_bm s (y_Lk s k + 1)) v := ⟨k, e, lk.2.1, h2, h3, h4, h5, h6, h7⟩
    rcases b.2.2 with rfl | rfl
    · exact Or.inl mk
    · exact Or.inr mk
theorem y_Nk.fin {s : z_M} (ok : y_OKy s) (lm : y_LBm (y_dm s) s) {v x : Int} (h : y_Nk s (s 309 58) 0 v x) : y_Nw (y_mP s) (s 309 44) v (if v = -1 then 2147483647 else x) ∧ (v = -1 → x = 999) := by
  rcases h with ⟨a, b, c⟩ | ⟨a, ⟨k1, d1, b1, b2, b3⟩, c⟩
  · rw [if_pos a]
    refine ⟨Or.inl ⟨a, rfl, fun l u p q n => ?_⟩, fun _ => b⟩
    obtain ⟨k, d, g1, _, g2⟩ := (y_mP_nk ok lm p q).mp n
    exact c k d u g1 g2
  · rw [if_neg (by omega)]
    have lk := lm.lk ok (k := k1) b1.1 (by unfold y_bf at b1; omega)
    refine ⟨Or.inr ⟨a, by omega, ?_, fun l u p q n => ?_⟩, fun e => by omega⟩
    · rw [b3]
      exact (y_mP_nk ok lm lk.1.1 lk.1.2).mpr ⟨k1, d1, b1, rfl, b2⟩
    · obtain ⟨k, d, g1, g3, g2⟩ := (y_mP_nk ok lm p q).mp n
      have := c k d u g1 g2
      rw [g3] at this
      exact this
theorem em_nearest {fu : Nat} (hfu : 8589934592 ≤ fu) {s : z_M} (h : y_GY s) {q : Int} : z_T (fX12_nearest fu s 309 q) (fun v s' => ∃ y, v = vI y ∧ y_ARL s s' (0 ≤ q ∧ q ≤ 1) y (fun sl x => y_NR (y_mP sl) (sl 309 44) q x)) := by
  refine T_of (fX12_nearest.eq_1 ..) ?_
  refine T_if1 v_ob309 ?_
  refine T_upg h.1 bd_309_0 (by decide) (fun s1 c1 g g2 e0 => ?_)
  have h1 := h.z c1 g g2
  refine T_bI (T_of em_in (T_rI ?_))
  by_cases k : 0 ≤ q ∧ q ≤ 1
  · rw [if_pos k]
    refine T_if1 (by decide) ?_
    refine T_of (fX12_nearest_J20.eq_1 ..) ?_
    refine T_if1 v_ob309 ?_
    refine T_bI (T_of (em_bad0 e0) (T_rI ?_))
    refine T_if1 rfl ?_
    refine T_if1 v_ob309 ?_
    refine T_useN (em_lay hfu h1) (fun v sl hq => ?_)
    obtain ⟨rfl, rl⟩ := hq
    refine T_vN ?_
    have rm := rl.m g g2
    have e1 : sl 309 0 = 0 := (rl.k 309 0 (by omega)).trans e0
    have n58 := CI_b rl.1 (k := 309) (j := 58) bd_309_58
    refine em_neK hfu rl.2.2.2.1 rl.2.2.1 n58 (fun v x g => ?_) (sl 309 58).toNat fu (-1) 999 0 (by omega) (by omega) (Int.le_refl _) (Or.inl ⟨rfl, rfl, fun k' d' u b => by unfold y_bf at b; omega⟩)
    obtain ⟨f1, f2⟩ := g.fin rl.2.2.2.1 rl.2.2.1
    refine T_ite (fun hq => ?_) (fun hq => ?_)
    · refine T_of (fX12_nearest_J171.eq_1 ..) ?_
      refine T_ret ⟨_, rfl, Or.inr ⟨k, e1, sl, rm, v, _, f1, ?_⟩⟩
      rw [if_pos (by omega)]
    · refine T_of (fX12_nearest_J171.eq_1 ..) ?_
      refine T_ret ⟨_, rfl, Or.inr ⟨k, e1, sl, rm, v, _, f1, ?_⟩⟩
      rw [if_neg (by omega)]
      by_cases z : v = -1
      · rw [if_pos z]; exact f2 z
      · rw [if_neg z, if_neg z]
  · rw [if_neg k]
    refine T_if0 (by decide) ?_
    refine T_of (fX12_nearest_J20.eq_1 ..) ?_
    refine T_if1 v_ob309 ?_
    refine T_useI (em_bad1 e0 (by decide) (Or.inr rfl)) (fun v sl hq => ?_)
    obtain ⟨rfl, e1, _⟩ := hq
    refine T_vI ?_
    refine T_if0 (by decide) ?_
    exact T_ret ⟨_, rfl, Or.inl ⟨k, e1⟩⟩
theorem y_LEq.bm {g s : z_M} (e : y_LEq g s) {l : Int} (h0 : 0 ≤ l) (h1 : l < g 240 6) : g 278 l = y_bm s l ∧ g 278 (l + 1) = y_bm s (l + 1) := ⟨(e.2.1 l h0 h1).2.2.2.2.2.1, (e.2.1 l h0 h1).2.2.2.2.2.2⟩
theorem q_nearest {g s s' : z_M} (b : y_BT g s) (ok : y_OKc g) (yc : y_YC g) (h : y_RM s s') {q x y : Int} (r : y_NR (y_cP g) (g 240 6) q x) (r' : y_NR (y_mP s') (s' 309 44) q y) : x = y := by
  obtain ⟨e, b'⟩ := b.le ok yc h
  rw [← e.1.1] at r'
  have bb : ∀ l : Int, 0 ≤ l → l < g 240 6 → 0 ≤ g 278 l ∧ g 278 (l + 1) ≤ g 279 9 := fun l l0 l1 => by
    have lm := h.2.2.1
    obtain ⟨e1, e2⟩ := e.bm l0 l1
    have m0 := lm.mono l.toNat 0 l (by omega) (Int.le_refl _) (by rw [← e.1.1]; omega)
    have z0 : y_bm s' 0 = 0 := y_su0
    have m1 := lm.mono (s' 309 44 - (l + 1)).toNat (l + 1) (s' 309 44) (by have := e.1.1; omega) (by omega) (Int.le_refl _)
    have e58 : s' 309 58 = y_bm s' (s' 309 44) := lm.e58
    have e9 := e.2.2.2.2.1
    omega
  refine r.eq (fun l u l0 l1 => ?_) r'
  obtain ⟨e1, e2⟩ := e.bm l0 l1
  have bl := bb l l0 l1
  have cg : ∀ d : Int, (d = 0 ∨ d = 1) → ∀ k : Int, g 278 l ≤ k → k < g 278 (l + 1) → y_cnn g d k = y_mn s' d k ∧ y_c0 g d k = y_m0 s' d k ∧ y_c1 g d k = y_m1 s' d k := fun d hd k p q => by
    have lt := e.lt (k := k) (d := d) (by omega) (by omega) hd
    refine ⟨lt, e.pf (by omega) (by omega) hd, ?_⟩
    have pf := e.pf (k := k) (d := d) (i := y_ltr g k d - 1) (by omega) (by omega) hd
    show y_pf (y_ltr g k d) (g 285 k) (g 262 (g 281 k)) (y_ltr g k d - 1) = y_pf (y_kl s' k d) (s' (3452 + k) 2) (s' 3442 (s' (3452 + k) 0)) (y_kl s' k d - 1)
    rw [pf, lt]
  unfold y_cP y_mP
  rw [← e1, ← e2]
  have c0 := cg 0 (Or.inl rfl)
  have c1 := cg 1 (Or.inr rfl)
  constructor
  · intro r
    rcases r with r | r
    · exact Or.inl (y_np_cg c0 r)
    · exact Or.inr (y_np_cg c1 r)
  · intro r
    rcases r with r | r
    · exact Or.inl (y_np_cg (fun k p q => ⟨(c0 k p q).1.symm, (c0 k p q).2.1.symm, (c0 k p q).2.2.symm⟩) r)
    · exact Or.inr (y_np_cg (fun k p q => ⟨(c1 k p q).1.symm, (c1 k p q).2.1.symm, (c1 k p q).2.2.symm⟩) r)
