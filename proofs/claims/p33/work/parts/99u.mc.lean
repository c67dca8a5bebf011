/-! the reference's sides: clashes, gutters, pages -/
theorem em_less {fu : Nat} {s : z_M} {a b : Int} : fX12_less fu s a b = some (vI (z_min a b), s) := by
  refine T_eq ?_
  refine T_of (fX12_less.eq_1 ..) ?_
  refine T_ite (fun hA => ?_) (fun hA => ?_)
  · refine T_of (fX12_less_J10.eq_1 ..) ?_
    refine T_ret ⟨congrArg vI ?_, rfl⟩
    have m := z_minb a b
    omega
  · refine T_of (fX12_less_J10.eq_1 ..) ?_
    refine T_ret ⟨congrArg vI ?_, rfl⟩
    have m := z_minb a b
    omega
/-- all that is needed of the reference's state -/
def y_RBd (s : z_M) : Prop := y_CRg s ∧ y_OKy s ∧ y_LBm (y_dm s) s ∧ y_MO s ∧ y_PU s ∧ (0 ≤ s 312 8 ∧ s 312 8 ≤ 12) ∧ s 312 0 ≤ 999
theorem y_GF.tr {s0 s s' : z_M} (h : y_GF s0 s) (h' : y_GF s s') : y_GF s0 s' := fun a b p q => (h' a b p q).trans (h a b p q)
theorem y_GF.rf {s : z_M} : y_GF s s := fun _ _ _ _ => rfl
theorem y_GF.rb {s0 s : z_M} (f : y_GF s0 s) (rb : y_RBd s0) : y_RBd s := by
  obtain ⟨cr, ok, lm, mo, pu, g8, g0⟩ := rb
  refine ⟨⟨by rw [f 309 58 (by omega) (by omega)]; exact cr.1, by rw [f 309 44 (by omega) (by omega)]; exact cr.2.1, by rw [f 316 0 (by omega) (by omega)]; exact cr.2.2.1, fun c j p q r => by rw [f c j (by omega) (by omega)]; exact cr.2.2.2 c j p q r⟩, (f.ok ok).1, f.lm ok lm, mo.cg (fun a b p q => f a b (by omega) (by omega)), pu.fr (f 309 20 (by omega) (by omega)) (f 316 0 (by omega) (by omega)) (fun b => f 346 b (by omega) (by omega)) (fun b => f 361 b (by omega) (by omega)) (fun b => f 3220 b (by omega) (by omega)) (fun b => f 3221 b (by omega) (by omega)) (fun b => f 3222 b (by omega) (by omega)) (fun b => f 3223 b (by omega) (by omega)), by rw [f 312 8 (by omega) (by omega)]; exact g8, by rw [f 312 0 (by omega) (by omega)]; exact g0⟩
/-- how much there is on a side -/
def y_n2d (s : z_M) (d l : Int) : Int := y_cl s d l (s 309 58) + y_mk2 s d l
theorem y_GF.cl {s0 s : z_M} (f : y_GF s0 s) (rb : y_RBd s0) {d l b : Int} (hb : b ≤ s0 309 58) : y_cl s d l b = y_cl s0 d l b := by
  obtain ⟨cr, ok, lm, _⟩ := rb
  unfold y_cl
  refine y_su_cg (fun k p q => ?_)
  unfold y_lq
  have c1 := cr.1
  have e1 : y_Lk s k = y_Lk s0 k := by
    show s 3441 (s (3452 + k) 0) = s0 3441 (s0 (3452 + k) 0)
    rw [f (3452 + k) 0 (by omega) (by omega), f 3441 _ (by omega) (by omega)]
  rw [e1, f.kl ok lm p (by omega) (by omega)]
theorem y_GF.fm {s0 s : z_M} (f : y_GF s0 s) (u : Int) : y_fm s u = y_fm s0 u := by
  unfold y_fm
  rw [f 309 20 (by omega) (by omega), f 3221 u (by omega) (by omega), f 316 0 (by omega) (by omega)]
theorem y_GF.ms {s0 s : z_M} (f : y_GF s0 s) (rb : y_RBd s0) {d i : Int} (h0 : 0 ≤ i) (h1 : i < s0 316 0) : y_ms s d i = y_ms s0 d i := by
  unfold y_ms
  rw [f.mm rb.2.2.2.1 h0 h1]
theorem y_RBd.fm {s : z_M} (rb : y_RBd s) {l : Int} (l0 : 0 ≤ l) (l1 : l < s 309 44) : 0 ≤ y_fm s (s 3438 l) ∧ y_fm s (s 3438 l) ≤ y_fm s (s 3438 (l + 1)) ∧ y_fm s (s 3438 (l + 1)) ≤ s 316 0 := by
  obtain ⟨cr, ok, lm, mo, pu, _⟩ := rb
  have rr := lm.r1 l0 l1
  have fm := pu.fmm cr.2.2.1.1 (s 3438 (l + 1) - s 3438 l).toNat (s 3438 l) (s 3438 (l + 1)) (by omega) (by omega) (by omega)
  exact ⟨fm.2.1, fm.1, fm.2.2⟩
theorem y_GF.n2 {s0 s : z_M} (f : y_GF s0 s) (rb : y_RBd s0) {d l : Int} (l0 : 0 ≤ l) (l1 : l < s0 309 44) : y_n2d s d l = y_n2d s0 d l := by
  have fm := rb.fm l0 l1
  unfold y_n2d y_mk2
  rw [f 309 58 (by omega) (by omega), f.cl rb (Int.le_refl _), f 3438 l (by omega) (by omega), f 3438 (l + 1) (by omega) (by omega), f.fm, f.fm]
  rw [y_su_cg (f := y_ms s d) (g := y_ms s0 d) (fun i p q => f.ms rb (by omega) (by omega))]
theorem y_RBd.n2 {s : z_M} (rb : y_RBd s) {d l : Int} (hd : d = 0 ∨ d = 1) (l0 : 0 ≤ l) (l1 : l < s 309 44) : 0 ≤ y_n2d s d l ∧ y_n2d s d l ≤ 2000 := by
  have fm := rb.fm l0 l1
  obtain ⟨cr, ok, lm, mo, pu, _⟩ := rb
  have c := y_cl_1800 cr ok lm (l := l) hd cr.1.1
  have m := y_ms_su mo hd fm.1 (y_fm s (s 3438 (l + 1)) - y_fm s (s 3438 l)).toNat (y_fm s (s 3438 (l + 1))) (by omega) fm.2.2
  have n := cr.2.2.1
  unfold y_n2d y_mk2
  omega
theorem y_GF.cv {s0 s : z_M} (f : y_GF s0 s) (rb : y_RBd s0) {d l x : Int} (l0 : 0 ≤ l) (l1 : l < s0 309 44) : y_CVV s d l x ↔ y_CVV s0 d l x := by
  have fm := rb.fm l0 l1
  have rb0 := rb
  obtain ⟨cr, ok, lm, mo, pu, _⟩ := rb
  have e58 := f 309 58 (by omega) (by omega)
  have ek : ∀ k : Int, 0 ≤ k → k < s0 309 58 → y_Lk s k = y_Lk s0 k ∧ y_kl s k d = y_kl s0 k d ∧ ∀ j : Int, y_gpp s k d j = y_gpp s0 k d j := fun k p q => by
    have c := cr.1
    refine ⟨?_, f.kl ok lm p q (by omega), fun j => f.gp ok lm p q (by omega)⟩
    show s 3441 (s (3452 + k) 0) = s0 3441 (s0 (3452 + k) 0)
    rw [f (3452 + k) 0 (by omega) (by omega), f 3441 _ (by omega) (by omega)]
  unfold y_CVV y_CL2 y_CM2
  rw [e58, f 3438 l (by omega) (by omega), f 3438 (l + 1) (by omega) (by omega), f.fm, f.fm]
  constructor
  · intro r
    rcases r with ⟨k, j, p, e, r, t⟩ | ⟨j, p, e, t⟩
    · obtain ⟨a, b, c⟩ := ek k p.1 p.2
      rw [a] at e
      rw [b] at r
      rw [c j] at t
      exact Or.inl ⟨k, j, p, e, r, t⟩
    · rw [f.ms rb0 (by omega) (by omega)] at e
      rw [f 3443 j (by omega) (by omega)] at t
      exact Or.inr ⟨j, p, e, t⟩
  · intro r
    rcases r with ⟨k, j, p, e, r, t⟩ | ⟨j, p, e, t⟩
    · obtain ⟨a, b, c⟩ := ek k p.1 p.2
      exact Or.inl ⟨k, j, p, by rw [a]; exact e, by rw [b]; exact r, by rw [c j]; exact t⟩
    · exact Or.inr ⟨j, p, by rw [f.ms rb0 (by omega) (by omega)]; exact e, by rw [f 3443 j (by omega) (by omega)]; exact t⟩
/-- things alone were changed -/
def y_HF (s s' : z_M) : Prop := ∀ a b : Int, 7653 ≤ a → s' a b = s a b
theorem em_sideOf {fu : Nat} (hfu : 8589934592 ≤ fu) {s : z_M} (rb : y_RBd s) {l d : Int} (hl : 0 ≤ l ∧ l < s 309 44) (hd : d = 0 ∨ d = 1) : z_T (fX12_sideOf fu s 309 l d) (fun v s' => v = vI (y_n2d s d l) ∧ y_TB s s' 0 (y_n2d s d l) (y_CVV s d l)) := by
  obtain ⟨cr, ok, lm, mo, pu, _⟩ := rb
  have cb := y_cl_1800 cr ok lm (l := l) hd cr.1.1
  refine T_of (fX12_sideOf.eq_1 ..) ?_
  refine T_if1 v_ob309 ?_
  refine T_upG (fun s1 a1 f1 => ?_)
  refine T_if1 v_ob309 ?_
  refine T_useI (em_laysSide hfu cr ok lm mo pu hl hd (by omega) (y_TB.z a1 f1)) (fun v s2 hq => ?_)
  obtain ⟨rfl, g⟩ := hq
  refine T_vI ?_
  have e : 0 + y_cl s d l (s 309 58) + y_mk2 s d l = y_n2d s d l := by
    unfold y_n2d
    omega
  rw [e] at g ⊢
  exact T_ret ⟨rfl, g.cg rfl (fun x => ⟨fun r => r.elim (fun q => q.elim) id, Or.inr⟩)⟩
theorem y_TB.gf {s s' : z_M} {t0 t : Int} {S : Int → Prop} (h : y_TB s s' t0 t S) (ht : 0 ≤ t0) : y_GF s s' ∧ y_HF s s' := ⟨h.1.gf ht, fun a b p => h.1 a b (by omega) (by omega)⟩
/-- the least number of S, or none -/
def y_Mz (S : Int → Prop) (x : Int) : Prop := (x = -1000 ∧ ∀ v : Int, ¬ S v) ∨ (S x ∧ ∀ v : Int, S v → x ≤ v)
theorem y_Mz.cg {S S' : Int → Prop} {x : Int} (h : y_Mz S x) (e : ∀ v : Int, S' v ↔ S v) : y_Mz S' x := by
  rcases h with ⟨a, b⟩ | ⟨a, b⟩
  · exact Or.inl ⟨a, fun v k => b v ((e v).mp k)⟩
  · exact Or.inr ⟨(e x).mpr a, fun v k => b v ((e v).mp k)⟩
theorem y_Mz.add {S S' : Int → Prop} {x f t : Int} (h : y_Mz S x) (e : ∀ v : Int, S' v ↔ S v ∨ (f ≤ v ∧ v < t)) (hS : ∀ v : Int, S v → -1000 < v) : (t ≤ f → y_Mz S' x) ∧ (f < t → (x = -1000 ∨ f < x) → y_Mz S' f) ∧ (f < t → x ≠ -1000 → ¬ f < x → y_Mz S' x) := by
  refine ⟨fun q => h.cg (fun v => (e v).trans ⟨fun r => r.elim id (fun r => by omega), Or.inl⟩), fun q r => Or.inr ⟨(e f).mpr (Or.inr ⟨Int.le_refl _, q⟩), fun v k => ?_⟩, fun q r t2 => ?_⟩
  · rcases (e v).mp k with k | k
    · rcases h with ⟨_, b⟩ | ⟨a, b⟩
      · exact absurd k (b v)
      · have := hS x a
        have := b v k
        omega
    · exact k.1
  · rcases h with ⟨a, _⟩ | ⟨a, b⟩
    · exact absurd a r
    · refine Or.inr ⟨(e x).mpr (Or.inl a), fun v k => ?_⟩
      rcases (e v).mp k with k | k
      · exact b v k
      · omega
/-- what things i ahead of a2 and j from a2 on have in common, as far as was looked -/
def y_Sij (s : z_M) (n i j N x : Int) : Prop := (y_TSS s 0 i x ∧ y_TSS s n N x) ∨ (y_TSS s i (i + 1) x ∧ y_TSS s n j x)
theorem y_TSS.s {s : z_M} {a b x : Int} (h : a ≤ b) : y_TSS s a (b + 1) x ↔ y_TSS s a b x ∨ (s (3653 + b) 0 ≤ x ∧ x < s (3653 + b) 0 + s (3653 + b) 1) := by
  constructor
  · rintro ⟨i, p, q, r⟩
    by_cases z : i = b
    · rw [z] at r
      exact Or.inr r
    · exact Or.inl ⟨i, p, by omega, r⟩
  · intro r
    rcases r with ⟨i, p, q, r⟩ | r
    · exact ⟨i, p, by omega, r⟩
    · exact ⟨b, h, by omega, r⟩
theorem y_TSS.z {s : z_M} {a x : Int} : ¬ y_TSS s a a x := by
  rintro ⟨i, p, q, _⟩
  omega
theorem em_clJ {fu : Nat} (hfu : 8589934592 ≤ fu) {s : z_M} {n N i : Int} (hn : 0 ≤ n ∧ n ≤ N ∧ N ≤ 4000) (hi : 0 ≤ i ∧ i < n) (tb : ∀ j : Int, 0 ≤ j → j < N → (-600000000 ≤ s (3653 + j) 0 ∧ s (3653 + j) 0 ≤ 600000000) ∧ (1 ≤ s (3653 + j) 1 ∧ s (3653 + j) 1 ≤ 6)) (lo : ∀ x : Int, y_TSS s 0 n x → -1000 < x) {kont : z_M → Int → z_O} {P : z_V → z_M → Prop} (kk : ∀ x : Int, y_Mz (fun v => y_TSS s 0 (i + 1) v ∧ y_TSS s n N v) x → z_T (kont s x) P) : ∀ (m F : Nat) (x j : Int), (m : Int) = N - j → m < F → n ≤ j → y_Mz (y_Sij s n i j N) x → z_T (fX12_clashOf_L47 fu 309 n N i F s x j kont) P := by
  have hS : ∀ j v : Int, y_Sij s n i j N v → -1000 < v := fun j v r => by
    rcases r with ⟨⟨i', p, q, r⟩, _⟩ | ⟨⟨i', p, q, r⟩, _⟩
    · exact lo v ⟨i', p, by omega, r⟩
    · exact lo v ⟨i', by omega, by omega, r⟩
  intro m
  induction m with
  | zero =>
    intro F x j e hF h2 g
    obtain ⟨F, rfl⟩ : ∃ F2, F = F2 + 1 := ⟨F - 1, by omega⟩
    have ej : j = N := by omega
    rw [ej] at g
    refine T_of (fX12_clashOf_L47.eq_2 ..) ?_
    refine T_if1 (by omega) ?_
    refine kk x (g.cg (fun v => ?_))
    constructor
    · rintro ⟨a, b⟩
      rcases (y_TSS.s (s := s) hi.1).mp a with a | a
      · exact Or.inl ⟨a, b⟩
      · exact Or.inr ⟨⟨i, Int.le_refl _, by omega, a⟩, b⟩
    · intro r
      rcases r with ⟨⟨i', p, q, r⟩, b⟩ | ⟨⟨i', p, q, r⟩, b⟩
      · exact ⟨⟨i', p, by omega, r⟩, b⟩
      · exact ⟨⟨i', by omega, by omega, r⟩, b⟩
  | succ m ih =>
    intro F x j e hF h2 g
    obtain ⟨F, rfl⟩ : ∃ F2, F = F2 + 1 := ⟨F - 1, by omega⟩
    have ti := tb i hi.1 (by omega)
    have tj := tb j (by omega) (by omega)
    have mx := z_maxb (s (3653 + i) 0) (s (3653 + j) 0)
    have mn := z_minb (s (3653 + i) 0 + s (3653 + i) 1) (s (3653 + j) 0 + s (3653 + j) 1)
    have st := g.add (S' := y_Sij s n i (j + 1) N) (f := z_max (s (3653 + i) 0) (s (3653 + j) 0)) (t := z_min (s (3653 + i) 0 + s (3653 + i) 1) (s (3653 + j) 0 + s (3653 + j) 1)) (fun v => by
      constructor
      · intro r
        rcases r with r | ⟨r, t⟩
        · exact Or.inl (Or.inl r)
        · rcases (y_TSS.s (s := s) h2).mp t with t | t
          · exact Or.inl (Or.inr ⟨r, t⟩)
          · obtain ⟨i', p, q, r⟩ := r
            have ei : i' = i := by omega
            subst ei
            exact Or.inr ⟨by omega, by omega⟩
      · intro r
        rcases r with (r | ⟨r, t⟩) | r
        · exact Or.inl r
        · exact Or.inr ⟨r, (y_TSS.s (s := s) h2).mpr (Or.inl t)⟩
        · exact Or.inr ⟨⟨i, Int.le_refl _, by omega, by omega, by omega⟩, ⟨j, h2, by omega, by omega, by omega⟩⟩) (hS j)
    refine T_of (fX12_clashOf_L47.eq_2 ..) ?_
    refine T_if0 (by omega) ?_
    refine T_if1 v_ob309 ?_
    refine T_let 3652 v_gm61 ?_
    refine T_if1 (v_x3652 (by omega)) ?_
    refine T_let (3653 + i) (gr_3652 _) ?_
    refine T_if1 (v_xt (by omega) (by omega)) ?_
    refine T_let (s (3653 + i) 0) rfl ?_
    refine T_if1 v_ob309 ?_
    refine T_let 3652 v_gm61 ?_
    refine T_if1 (v_x3652 (by omega)) ?_
    refine T_let (3653 + j) (gr_3652 _) ?_
    refine T_if1 (v_xt (by omega) (by omega)) ?_
    refine T_let (s (3653 + j) 0) rfl ?_
    refine T_bI (T_of (em_more) (T_rI ?_))
    refine T_if1 v_ob309 ?_
    refine T_let 3652 v_gm61 ?_
    refine T_if1 (v_x3652 (by omega)) ?_
    refine T_let (3653 + i) (gr_3652 _) ?_
    refine T_if1 (v_xt (by omega) (by omega)) ?_
    refine T_let (s (3653 + i) 0) rfl ?_
    refine T_if1 v_ob309 ?_
    refine T_let 3652 v_gm61 ?_
    refine T_if1 (v_x3652 (by omega)) ?_
    refine T_let (3653 + i) (gr_3652 _) ?_
    refine T_if1 (v_xt (by omega) (by omega)) ?_
    refine T_let (s (3653 + i) 1) rfl ?_
    refine T_let ((s (3653 + i) 0) + (s (3653 + i) 1)) (v_wid (by omega)) ?_
    refine T_if1 v_ob309 ?_
    refine T_let 3652 v_gm61 ?_
    refine T_if1 (v_x3652 (by omega)) ?_
    refine T_let (3653 + j) (gr_3652 _) ?_
    refine T_if1 (v_xt (by omega) (by omega)) ?_
    refine T_let (s (3653 + j) 0) rfl ?_
    refine T_if1 v_ob309 ?_
    refine T_let 3652 v_gm61 ?_
    refine T_if1 (v_x3652 (by omega)) ?_
    refine T_let (3653 + j) (gr_3652 _) ?_
    refine T_if1 (v_xt (by omega) (by omega)) ?_
    refine T_let (s (3653 + j) 1) rfl ?_
    refine T_let ((s (3653 + j) 0) + (s (3653 + j) 1)) (v_wid (by omega)) ?_
    refine T_bI (T_of (em_less) (T_rI ?_))
    refine T_ite (fun hT => ?_) (fun hT => ?_)
    · refine T_of (fX12_clashOf_J145.eq_1 ..) ?_
      refine T_let (j + 1) (v_wid (by omega)) ?_
      exact ih F x (j + 1) (by omega) (by omega) (by omega) (st.1 hT)
    · refine T_ite (fun hZ => ?_) (fun hZ => ?_)
      · refine T_of (fX12_clashOf_J141.eq_1 ..) ?_
        refine T_of (fX12_clashOf_J145.eq_1 ..) ?_
        refine T_let (j + 1) (v_wid (by omega)) ?_
        exact ih F (z_max (s (3653 + i) 0) (s (3653 + j) 0)) (j + 1) (by omega) (by omega) (by omega) (st.2.1 (by omega) (Or.inl hZ))
      · refine T_ite (fun hX => ?_) (fun hX => ?_)
        · refine T_of (fX12_clashOf_J145.eq_1 ..) ?_
          refine T_let (j + 1) (v_wid (by omega)) ?_
          exact ih F x (j + 1) (by omega) (by omega) (by omega) (st.2.2 (by omega) hZ (by omega))
        · refine T_of (fX12_clashOf_J141.eq_1 ..) ?_
          refine T_of (fX12_clashOf_J145.eq_1 ..) ?_
          refine T_let (j + 1) (v_wid (by omega)) ?_
          exact ih F (z_max (s (3653 + i) 0) (s (3653 + j) 0)) (j + 1) (by omega) (by omega) (by omega) (st.2.1 (by omega) (Or.inr (by omega)))
theorem em_clI {fu : Nat} (hfu : 8589934592 ≤ fu) {s : z_M} {n N : Int} (hn : 0 ≤ n ∧ n ≤ N ∧ N ≤ 4000) (tb : ∀ j : Int, 0 ≤ j → j < N → (-600000000 ≤ s (3653 + j) 0 ∧ s (3653 + j) 0 ≤ 600000000) ∧ (1 ≤ s (3653 + j) 1 ∧ s (3653 + j) 1 ≤ 6)) (lo : ∀ x : Int, y_TSS s 0 n x → -1000 < x) {kont : z_M → Int → z_O} {P : z_V → z_M → Prop} (kk : ∀ x : Int, y_Mz (fun v => y_TSS s 0 n v ∧ y_TSS s n N v) x → z_T (kont s x) P) : ∀ (m F : Nat) (x i : Int), (m : Int) = n - i → m < F → 0 ≤ i → y_Mz (fun v => y_TSS s 0 i v ∧ y_TSS s n N v) x → z_T (fX12_clashOf_L38 fu 309 n N F s x i kont) P := by
  intro m
  induction m with
  | zero =>
    intro F x i e hF h2 g
    obtain ⟨F, rfl⟩ : ∃ F2, F = F2 + 1 := ⟨F - 1, by omega⟩
    have ei : i = n := by omega
    refine T_of (fX12_clashOf_L38.eq_2 ..) ?_
    refine T_if1 (by omega) ?_
    rw [ei] at g
    exact kk x g
  | succ m ih =>
    intro F x i e hF h2 g
    obtain ⟨F, rfl⟩ : ∃ F2, F = F2 + 1 := ⟨F - 1, by omega⟩
    refine T_of (fX12_clashOf_L38.eq_2 ..) ?_
    refine T_if0 (by omega) ?_
    refine em_clJ hfu hn ⟨h2, by omega⟩ tb lo (fun x1 g1 => ?_) (N - n).toNat fu x n (by omega) (by omega) (Int.le_refl _) (g.cg (fun v => ⟨fun r => r.elim id (fun q => absurd q.2 y_TSS.z), Or.inl⟩))
    refine T_let (i + 1) (v_wid (by omega)) ?_
    exact ih F x1 (i + 1) (by omega) (by omega) (by omega) g1
/-- where lines l, l + 1 meet -/
def y_bth (s : z_M) (l x : Int) : Prop := l + 1 < s 309 44 ∧ y_CVV s 1 l x ∧ y_CVV s 0 (l + 1) x
theorem em_clashOf {fu : Nat} (hfu : 8589934592 ≤ fu) {s : z_M} (rb : y_RBd s) {l : Int} (hl : 0 ≤ l ∧ l < s 309 44) : z_T (fX12_clashOf fu s 309 l) (fun v s' => y_GF s s' ∧ y_HF s s' ∧ ∃ x, v = vI x ∧ y_Mz (y_bth s l) x) := by
  have h44 := rb.1.2.1
  refine T_of (fX12_clashOf.eq_1 ..) ?_
  refine T_let (l + 1) (v_wid (by omega)) ?_
  refine T_if1 v_ob309 ?_
  refine T_let (s 309 44) rfl ?_
  refine T_ite (fun hE => ?_) (fun hE => ?_)
  · refine T_if1 v_ob309 ?_
    refine T_useI (em_sideOf hfu rb hl (Or.inr rfl)) (fun v s1 hq => ?_)
    obtain ⟨rfl, g1⟩ := hq
    refine T_vI ?_
    obtain ⟨f1, k1⟩ := g1.gf (Int.le_refl 0)
    have rb1 := f1.rb rb
    have n1 := rb.n2 (d := 1) (l := l) (Or.inr rfl) hl.1 hl.2
    have n2 := rb1.n2 (d := 0) (l := l + 1) (Or.inl rfl) (by omega) (by rw [f1 309 44 (by omega) (by omega)]; exact hE)
    refine T_let (l + 1) (v_wid (by omega)) ?_
    refine T_if1 v_ob309 ?_
    have e44 : s1 309 44 = s 309 44 := f1 309 44 (by omega) (by omega)
    have cb := y_cl_1800 rb1.1 rb1.2.1 rb1.2.2.1 (d := 0) (l := l + 1) (Or.inl rfl) rb1.1.1.1
    have z1 : y_TB s1 s1 (y_n2d s 1 l) (y_n2d s 1 l) (fun _ => False) := ⟨fun _ _ _ _ => rfl, g1.2.1, fun x => ⟨fun r => absurd r y_TSS.z, fun r => r.elim⟩, fun i p q => by omega⟩
    refine T_useI (em_laysSide hfu rb1.1 rb1.2.1 rb1.2.2.1 rb1.2.2.2.1 rb1.2.2.2.2.1 (l := l + 1) (d := 0) ⟨by omega, by omega⟩ (Or.inl rfl) (by omega) z1) (fun v s2 hq => ?_)
    obtain ⟨rfl, g2⟩ := hq
    refine T_vI ?_
    have ea : y_n2d s 1 l + y_cl s1 0 (l + 1) (s1 309 58) + y_mk2 s1 0 (l + 1) = y_n2d s 1 l + y_n2d s1 0 (l + 1) := by
      unfold y_n2d
      omega
    rw [ea] at g2 ⊢
    obtain ⟨f2, k2⟩ := g2.gf n1.1
    have old : ∀ i b : Int, 0 ≤ i → i < y_n2d s 1 l → s2 (3653 + i) b = s1 (3653 + i) b := fun i b p q => g2.1 _ _ (by omega) (by omega)
    have t1 : ∀ x : Int, y_TSS s2 0 (y_n2d s 1 l) x ↔ y_CVV s 1 l x := fun x => by
      refine Iff.trans ?_ (g1.2.2.1 x)
      constructor
      · rintro ⟨i, p, q, r⟩
        rw [old i 0 p q, old i 1 p q] at r
        exact ⟨i, p, q, r⟩
      · rintro ⟨i, p, q, r⟩
        exact ⟨i, p, q, by rw [old i 0 p q, old i 1 p q]; exact r⟩
    have t2 : ∀ x : Int, y_TSS s2 (y_n2d s 1 l) (y_n2d s 1 l + y_n2d s1 0 (l + 1)) x ↔ y_CVV s 0 (l + 1) x := fun x => (g2.2.2.1 x).trans (Iff.trans ⟨fun r => r.elim (fun q => q.elim) id, Or.inr⟩ (f1.cv rb (by omega) hE))
    have lo : ∀ x : Int, y_TSS s2 0 (y_n2d s 1 l) x → -1000 < x := fun x r => by
      have b := y_CVV_b rb.1 rb.2.1 rb.2.2.1 rb.2.2.2.2.1 rb.2.2.2.2.2.2 hl.1 hl.2 (Or.inr rfl) ((t1 x).mp r)
      unfold y_ra at b
      omega
    have tb : ∀ j : Int, 0 ≤ j → j < y_n2d s 1 l + y_n2d s1 0 (l + 1) → (-600000000 ≤ s2 (3653 + j) 0 ∧ s2 (3653 + j) 0 ≤ 600000000) ∧ (1 ≤ s2 (3653 + j) 1 ∧ s2 (3653 + j) 1 ≤ 6) := fun j p q => by
      by_cases z : j < y_n2d s 1 l
      · rw [old j 0 p z, old j 1 p z]
        exact g1.2.2.2 j p z
      · exact g2.2.2.2 j (by omega) q
    refine em_clI hfu (n := y_n2d s 1 l) (N := y_n2d s 1 l + y_n2d s1 0 (l + 1)) (by omega) tb lo (fun x g => T_ret ⟨f1.tr f2, fun a b p => (k2 a b p).trans (k1 a b p), x, rfl, g.cg (fun v => ⟨fun r => ⟨(t1 v).mpr r.2.1, (t2 v).mpr r.2.2⟩, fun r => ⟨hE, (t1 v).mp r.1, (t2 v).mp r.2⟩⟩)⟩) (y_n2d s 1 l).toNat fu (-1000) 0 (by omega) (by omega) (Int.le_refl _) (Or.inl ⟨rfl, fun v r => y_TSS.z r.1⟩)
  · exact T_ret ⟨y_GF.rf, fun _ _ _ => rfl, -1000, rfl, Or.inl ⟨rfl, fun v r => hE r.1⟩⟩
/-- gutters, what outer sides add -/
noncomputable def y_Gm (s : z_M) (l : Int) : Int := s 312 8 + @ite Int (∃ x, y_bth s l x) (Classical.propDecidable _) 12 (if y_n2d s 1 l + y_n2d s 0 (l + 1) ≤ 0 then 0 else 6)
def y_om (s : z_M) (d l : Int) : Int := if y_n2d s d l ≤ 0 then 0 else 6
theorem y_om_b {s : z_M} {d l : Int} : 0 ≤ y_om s d l ∧ y_om s d l ≤ 6 := by
  unfold y_om
  split <;> decide
theorem y_Gm1 {s : z_M} {l : Int} (h : ∃ x, y_bth s l x) : y_Gm s l = s 312 8 + 12 := congrArg (fun t => s 312 8 + t) (@if_pos _ (Classical.propDecidable _) h Int 12 _)
theorem y_Gm0 {s : z_M} {l : Int} (h : ¬ ∃ x, y_bth s l x) : y_Gm s l = s 312 8 + if y_n2d s 1 l + y_n2d s 0 (l + 1) ≤ 0 then 0 else 6 := congrArg (fun t => s 312 8 + t) (@if_neg _ (Classical.propDecidable _) h Int 12 _)
theorem y_RBd.G {s : z_M} (rb : y_RBd s) {l : Int} : 0 ≤ y_Gm s l ∧ y_Gm s l ≤ 24 := by
  have b := rb.2.2.2.2.2.1
  by_cases h : ∃ x, y_bth s l x
  · rw [y_Gm1 h]
    omega
  · rw [y_Gm0 h]
    split <;> omega
theorem y_GF.om {s0 s : z_M} (f : y_GF s0 s) (rb : y_RBd s0) {d l : Int} (l0 : 0 ≤ l) (l1 : l < s0 309 44) : y_om s d l = y_om s0 d l := by
  unfold y_om
  rw [f.n2 rb l0 l1]
theorem y_GF.G {s0 s : z_M} (f : y_GF s0 s) (rb : y_RBd s0) {l : Int} (l0 : 0 ≤ l) (l1 : l + 1 < s0 309 44) : y_Gm s l = y_Gm s0 l := by
  have eq : (∃ x, y_bth s l x) ↔ ∃ x, y_bth s0 l x := by
    unfold y_bth
    rw [f 309 44 (by omega) (by omega)]
    exact ⟨fun ⟨x, a, b, c⟩ => ⟨x, a, (f.cv rb l0 (by omega)).mp b, (f.cv rb (by omega) l1).mp c⟩, fun ⟨x, a, b, c⟩ => ⟨x, a, (f.cv rb l0 (by omega)).mpr b, (f.cv rb (by omega) l1).mpr c⟩⟩
  by_cases h : ∃ x, y_bth s0 l x
  · rw [y_Gm1 h, y_Gm1 (eq.mpr h), f 312 8 (by omega) (by omega)]
  · rw [y_Gm0 h, y_Gm0 (fun r => h (eq.mp r)), f 312 8 (by omega) (by omega), f.n2 rb l0 (by omega), f.n2 rb (by omega) l1]
theorem em_gutterOf {fu : Nat} (hfu : 8589934592 ≤ fu) {s : z_M} (rb : y_RBd s) {l : Int} (hl : 0 ≤ l ∧ l + 1 < s 309 44) : z_T (fX12_gutterOf fu s 309 l) (fun v s' => v = vI (y_Gm s l) ∧ y_GF s s' ∧ y_HF s s') := by
  have h44 := rb.1.2.1
  have b8 := rb.2.2.2.2.2.1
  refine T_of (fX12_gutterOf.eq_1 ..) ?_
  refine T_if1 v_ob309 ?_
  refine T_useI (em_clashOf hfu rb (l := l) ⟨hl.1, by omega⟩) (fun v s1 hq => ?_)
  obtain ⟨f1, k1, x, rfl, mz⟩ := hq
  refine T_vI ?_
  have rb1 := f1.rb rb
  have e8 : s1 312 8 = s 312 8 := f1 312 8 (by omega) (by omega)
  have e44 : s1 309 44 = s 309 44 := f1 309 44 (by omega) (by omega)
  refine T_ite (fun hx => ?_) (fun hx => ?_)
  · have no : ¬ ∃ x, y_bth s l x := fun ⟨v, r⟩ => by
      rcases mz with ⟨_, b⟩ | ⟨a, b⟩
      · exact b v r
      · have c := y_CVV_b rb.1 rb.2.1 rb.2.2.1 rb.2.2.2.2.1 rb.2.2.2.2.2.2 hl.1 (by omega) (Or.inr rfl) a.2.1
        unfold y_ra at c
        omega
    refine T_if1 v_ob309 ?_
    refine T_let 312 v_gm9 ?_
    refine T_if1 (v_x312 (by omega)) ?_
    refine T_let (s 312 8) e8 ?_
    refine T_if1 v_ob309 ?_
    refine T_useI (em_sideOf hfu rb1 (l := l) ⟨hl.1, by omega⟩ (Or.inr rfl)) (fun v s2 hq => ?_)
    obtain ⟨rfl, g2⟩ := hq
    refine T_vI ?_
    obtain ⟨f2, k2⟩ := g2.gf (Int.le_refl 0)
    have f02 := f1.tr f2
    have rb2 := f02.rb rb
    have e44' : s2 309 44 = s 309 44 := f02 309 44 (by omega) (by omega)
    rw [f1.n2 rb hl.1 (by omega)]
    refine T_let (l + 1) (v_wid (by omega)) ?_
    refine T_if1 v_ob309 ?_
    refine T_useI (em_sideOf hfu rb2 (l := l + 1) ⟨by omega, by omega⟩ (Or.inl rfl)) (fun v s3 hq => ?_)
    obtain ⟨rfl, g3⟩ := hq
    refine T_vI ?_
    obtain ⟨f3, k3⟩ := g3.gf (Int.le_refl 0)
    rw [f02.n2 rb (by omega) hl.2]
    have n1 := rb.n2 (d := 1) (l := l) (Or.inr rfl) hl.1 (by omega)
    have n0 := rb.n2 (d := 0) (l := l + 1) (Or.inl rfl) (by omega) hl.2
    have fin : ∀ y : Int, y = (if y_n2d s 1 l + y_n2d s 0 (l + 1) ≤ 0 then 0 else 6) → z_T (fX12_gutterOf_J53 fu s3 (s 312 8) y) (fun v s' => v = vI (y_Gm s l) ∧ y_GF s s' ∧ y_HF s s') := fun y ey => by
      refine T_of (fX12_gutterOf_J53.eq_1 ..) ?_
      have yb : 0 ≤ y ∧ y ≤ 6 := by
        rw [ey]
        split <;> decide
      refine T_let (s 312 8 + y) (v_wid (by omega)) ?_
      exact T_ret ⟨by rw [y_Gm0 no, ey], f02.tr f3, fun a b p => (k3 a b p).trans ((k2 a b p).trans (k1 a b p))⟩
    refine T_let (y_n2d s 1 l + y_n2d s 0 (l + 1)) (v_wid (by omega)) ?_
    refine T_ite (fun hN => ?_) (fun hN => ?_)
    · exact fin 0 (if_pos hN).symm
    · exact fin 6 (if_neg hN).symm
  · have ex : ∃ x, y_bth s l x := by
      rcases mz with ⟨a, _⟩ | ⟨a, _⟩
      · exact absurd a hx
      · exact ⟨x, a⟩
    refine T_if1 v_ob309 ?_
    refine T_let 312 v_gm9 ?_
    refine T_if1 (v_x312 (by omega)) ?_
    refine T_let (s 312 8) e8 ?_
    refine T_let (s 312 8 + 12) (v_wid (by omega)) ?_
    exact T_ret ⟨by rw [y_Gm1 ex], f1, k1⟩
noncomputable abbrev y_Tm (s : z_M) : Int → Int → Int := y_THi (y_Gm s) (y_om s 0) (y_om s 1)
theorem em_thickOf {fu : Nat} (hfu : 8589934592 ≤ fu) {s0 s : z_M} (f : y_GF s0 s) (rb : y_RBd s0) {a b : Int} (h0 : 0 ≤ a) (h1 : a ≤ b) (h2 : b < s0 309 44) : z_T (fX12_thickOf fu s 309 a b) (fun v s' => v = vI (y_Tm s0 a b) ∧ y_GF s0 s' ∧ y_HF s s') := by
  have h44 := rb.1.2.1
  have rb1 := f.rb rb
  have e1 : s 309 44 = s0 309 44 := f 309 44 (by omega) (by omega)
  have su : ∀ x : Int, a ≤ x → x ≤ b → 0 ≤ y_su (y_Gm s0) a x ∧ y_su (y_Gm s0) a x ≤ 4800 := fun x p q => by
    have r := y_su_r (f := y_Gm s0) (a := a) (u := x) (m := 24) (by decide) (fun i _ _ => rb.G) p (by omega)
    omega
  have go : ∀ (m F : Nat) (s1 : z_M) (l x : Int), (m : Int) = b - l → m < F → a ≤ l → x = y_om s0 0 a + y_om s0 1 b + 12 + 12 * (l - a) + y_su (y_Gm s0) a l → y_GF s0 s1 → y_HF s s1 → z_T (fX12_thickOf_L38 fu 309 b F s1 x l (fun s12 x13 => some (vI x13, s12))) (fun v s' => v = vI (y_Tm s0 a b) ∧ y_GF s0 s' ∧ y_HF s s') := by
    intro m
    induction m with
    | zero =>
      intro F s1 l x e hF p ex g k
      obtain ⟨F, rfl⟩ : ∃ F2, F = F2 + 1 := ⟨F - 1, by omega⟩
      have el : l = b := by omega
      subst el
      refine T_of (fX12_thickOf_L38.eq_2 ..) ?_
      refine T_if1 (by omega) ?_
      refine T_ret ⟨congrArg vI ?_, g, k⟩
      rw [ex]
      show _ = 12 * (l - a + 1) + y_su (y_Gm s0) a l + y_om s0 0 a + y_om s0 1 l
      omega
    | succ m ih =>
      intro F s1 l x e hF p ex g k
      obtain ⟨F, rfl⟩ : ∃ F2, F = F2 + 1 := ⟨F - 1, by omega⟩
      have rbs := g.rb rb
      have e44 : s1 309 44 = s0 309 44 := g 309 44 (by omega) (by omega)
      have o0 := y_om_b (s := s0) (d := 0) (l := a)
      have o1 := y_om_b (s := s0) (d := 1) (l := b)
      have sl := su l p (by omega)
      have gl := rb.G (l := l)
      have sS := y_suS (f := y_Gm s0) p
      refine T_of (fX12_thickOf_L38.eq_2 ..) ?_
      refine T_if0 (by omega) ?_
      refine T_if1 v_ob309 ?_
      refine T_useI (em_gutterOf hfu rbs (l := l) ⟨by omega, by omega⟩) (fun v s2 hq => ?_)
      obtain ⟨rfl, g2, k2⟩ := hq
      refine T_vI ?_
      rw [g.G rb (by omega) (by omega)]
      refine T_let (12 + y_Gm s0 l) (v_wid (by omega)) ?_
      refine T_let (x + (12 + y_Gm s0 l)) (v_wid (by omega)) ?_
      refine T_let (l + 1) (v_wid (by omega)) ?_
      exact ih F s2 (l + 1) _ (by omega) (by omega) (by omega) (by omega) (g.tr g2) (fun a b p => (k2 a b p).trans (k a b p))
  have fin : ∀ (s2 : z_M) (x y : Int), x = y_om s0 0 a → y = y_om s0 1 b → y_GF s0 s2 → y_HF s s2 → z_T (fX12_thickOf_J30 fu s2 309 a b x y) (fun v s' => v = vI (y_Tm s0 a b) ∧ y_GF s0 s' ∧ y_HF s s') := fun s2 x y ex ey g k => by
    have o0 := y_om_b (s := s0) (d := 0) (l := a)
    have o1 := y_om_b (s := s0) (d := 1) (l := b)
    have z0 : y_su (y_Gm s0) a a = 0 := y_su0
    refine T_of (fX12_thickOf_J30.eq_1 ..) ?_
    refine T_let (x + y) (v_wid (by omega)) ?_
    refine T_let (x + y + 12) (v_wid (by omega)) ?_
    exact go (b - a).toNat fu s2 a _ (by omega) (by omega) (Int.le_refl _) (by omega) g k
  have mid : ∀ (s2 : z_M) (x : Int), x = y_om s0 0 a → y_GF s0 s2 → y_HF s s2 → z_T (fX12_thickOf_J15 fu s2 309 a b x) (fun v s' => v = vI (y_Tm s0 a b) ∧ y_GF s0 s' ∧ y_HF s s') := fun s2 x ex g k => by
    have rbs := g.rb rb
    have e44 : s2 309 44 = s0 309 44 := g 309 44 (by omega) (by omega)
    refine T_of (fX12_thickOf_J15.eq_1 ..) ?_
    refine T_if1 v_ob309 ?_
    refine T_useI (em_sideOf hfu rbs (l := b) ⟨by omega, by omega⟩ (Or.inr rfl)) (fun v s3 hq => ?_)
    obtain ⟨rfl, g3⟩ := hq
    refine T_vI ?_
    obtain ⟨f3, k3⟩ := g3.gf (Int.le_refl 0)
    rw [g.n2 rb (by omega) h2]
    have kk : y_HF s s3 := fun a b p => (k3 a b p).trans (k a b p)
    refine T_ite (fun hN => ?_) (fun hN => ?_)
    · exact fin s3 x 0 ex (if_pos hN).symm (g.tr f3) kk
    · exact fin s3 x 6 ex (if_neg hN).symm (g.tr f3) kk
  refine T_of (fX12_thickOf.eq_1 ..) ?_
  refine T_if1 v_ob309 ?_
  refine T_useI (em_sideOf hfu rb1 (l := a) ⟨by omega, by omega⟩ (Or.inl rfl)) (fun v s3 hq => ?_)
  obtain ⟨rfl, g3⟩ := hq
  refine T_vI ?_
  obtain ⟨f3, k3⟩ := g3.gf (Int.le_refl 0)
  rw [f.n2 rb h0 (by omega)]
  refine T_ite (fun hN => ?_) (fun hN => ?_)
  · exact mid s3 0 (if_pos hN).symm (f.tr f3) k3
  · exact mid s3 6 (if_neg hN).symm (f.tr f3) k3
