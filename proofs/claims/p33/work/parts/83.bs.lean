/-! lines broken so that the costs are least: both sides -/
/-- kept out of sight -/
def y_hid (p : Prop) : Prop := p
theorem y_hide {p : Prop} (h : p) : y_hid p := h
theorem y_show {p : Prop} (h : y_hid p) : p := h
/-- what a line from a to b costs -/
def y_co (L : Int → Int → Int) (len n a b : Int) : Int := if len < L a b then 1000000 * (L a b - len) else if b = n - 1 then 0 else (len - L a b) * (len - L a b)
/-- the best ends from a0 on: B the costs, En the last units -/
def y_Bs (co : Int → Int → Int) (C : Int → Int) (n a0 : Int) (B En : Int → Int) : Prop := B n = 0 ∧ ∀ a : Int, a0 ≤ a → a < n → (a ≤ En a ∧ En a < n ∧ C (En a) = 1 ∧ B a = co a (En a) + B (En a + 1)) ∧ (∀ b : Int, a ≤ b → b < n → C b = 1 → B a ≤ co a b + B (b + 1)) ∧ ∀ b : Int, a ≤ b → b < En a → C b = 1 → B a < co a b + B (b + 1)
theorem y_Bs.un {co : Int → Int → Int} {C : Int → Int} {n a0 : Int} {B En B' En' : Int → Int} (h : y_Bs co C n a0 B En) (h' : y_Bs co C n a0 B' En') : ∀ (m : Nat) (a : Int), n - a ≤ m → a0 ≤ a → a ≤ n → B a = B' a ∧ (a < n → En a = En' a) := by
  intro m
  induction m with
  | zero =>
    intro a h1 h2 h3
    have e : a = n := by omega
    subst e
    exact ⟨h.1.trans h'.1.symm, fun w => by omega⟩
  | succ m ih =>
    intro a h1 h2 h3
    by_cases z : a = n
    · subst z
      exact ⟨h.1.trans h'.1.symm, fun w => by omega⟩
    · have p := h.2 a h2 (by omega)
      have p' := h'.2 a h2 (by omega)
      have i1 := (ih (En a + 1) (by omega) (by omega) (by omega)).1
      have i2 := (ih (En' a + 1) (by omega) (by omega) (by omega)).1
      have l1 := p.2.1 (En' a) p'.1.1 p'.1.2.1 p'.1.2.2.1
      have l2 := p'.2.1 (En a) p.1.1 p.1.2.1 p.1.2.2.1
      have e1 := p.1.2.2.2
      have e2 := p'.1.2.2.2
      refine ⟨by omega, fun _ => ?_⟩
      by_cases q : En a < En' a
      · have := p'.2.2 (En a) p.1.1 q p.1.2.2.1
        omega
      · by_cases q2 : En' a < En a
        · have := p.2.2 (En' a) p'.1.1 q2 p'.1.2.2.1
          omega
        · omega
/-- of the ends below b: none, or the best one is e -/
def y_BI0 (C : Int → Int) (a b : Int) : Prop := ∀ i : Int, a ≤ i → i < b → C i ≠ 1
def y_BI1 (co : Int → Int → Int) (C B : Int → Int) (a b x e : Int) : Prop := (a ≤ e ∧ e < b ∧ C e = 1 ∧ x = co a e + B (e + 1)) ∧ (∀ i : Int, a ≤ i → i < b → C i = 1 → x ≤ co a i + B (i + 1)) ∧ ∀ i : Int, a ≤ i → i < e → C i = 1 → x < co a i + B (i + 1)
theorem y_BI0.s {C : Int → Int} {a b : Int} (h : y_BI0 C a b) (c : C b ≠ 1) : y_BI0 C a (b + 1) := fun i p q => by
  by_cases z : i = b
  · rw [z]; exact c
  · exact h i p (by omega)
theorem y_BI0.n {co : Int → Int → Int} {C B : Int → Int} {a b x : Int} (h : y_BI0 C a b) (ab : a ≤ b) (c : C b = 1) (e : x = co a b + B (b + 1)) : y_BI1 co C B a (b + 1) x b :=
  ⟨⟨ab, by omega, c, e⟩, fun i p q w => by
    by_cases z : i = b
    · rw [z, e]; exact Int.le_refl _
    · exact absurd w (h i p (by omega)), fun i p q w => absurd w (h i p q)⟩
theorem y_BI1.s {co : Int → Int → Int} {C B : Int → Int} {a b x e : Int} (h : y_BI1 co C B a b x e) (c : C b = 1 → x ≤ co a b + B (b + 1)) : y_BI1 co C B a (b + 1) x e :=
  ⟨⟨h.1.1, by have := h.1.2.1; omega, h.1.2.2⟩, fun i p q w => by
    by_cases z : i = b
    · subst z; exact c w
    · exact h.2.1 i p (by omega) w, h.2.2⟩
theorem y_BI1.l {co : Int → Int → Int} {C B : Int → Int} {a b x e y : Int} (h : y_BI1 co C B a b x e) (ab : a ≤ b) (c : C b = 1) (ey : y = co a b + B (b + 1)) (lt : y < x) : y_BI1 co C B a (b + 1) y b :=
  ⟨⟨ab, by omega, c, ey⟩, fun i p q w => by
    by_cases z : i = b
    · rw [z, ey]; exact Int.le_refl _
    · have := h.2.1 i p (by omega) w; omega, fun i p q w => by have := h.2.1 i p q w; omega⟩
/-- all ends seen: one more place is known -/
theorem y_Bs.mk {co : Int → Int → Int} {C : Int → Int} {n a : Int} {B En B' En' : Int → Int} {x e : Int} (h : y_Bs co C n (a + 1) B En) (an : a < n) (i : y_BI1 co C B a n x e) (b1 : B' a = x) (e1 : En' a = e) (b2 : ∀ y : Int, a < y → B' y = B y) (e2 : ∀ y : Int, a < y → En' y = En y) : y_Bs co C n a B' En' := by
  refine ⟨(b2 n an).trans h.1, fun a' p q => ?_⟩
  by_cases z : a' = a
  · subst z
    obtain ⟨⟨i1, i2, i3, i4⟩, i5, i6⟩ := i
    rw [b1, e1]
    refine ⟨⟨i1, i2, i3, by rw [b2 (e + 1) (by omega)]; exact i4⟩, fun b r t c => ?_, fun b r t c => ?_⟩
    · rw [b2 (b + 1) (by omega)]; exact i5 b r t c
    · rw [b2 (b + 1) (by omega)]; exact i6 b r t c
  · obtain ⟨⟨i1, i2, i3, i4⟩, i5, i6⟩ := h.2 a' (by omega) q
    rw [b2 a' (by omega), e2 a' (by omega)]
    refine ⟨⟨i1, i2, i3, by rw [b2 (En a' + 1) (by omega)]; exact i4⟩, fun b r t c => ?_, fun b r t c => ?_⟩
    · rw [b2 (b + 1) (by omega)]; exact i5 b r t c
    · rw [b2 (b + 1) (by omega)]; exact i6 b r t c
theorem y_co_b {L : Int → Int → Int} {len n a b : Int} (hl : 0 ≤ len ∧ len ≤ 10000) (hL : 0 ≤ L a b ∧ L a b ≤ 6000000) : 0 ≤ y_co L len n a b ∧ y_co L len n a b ≤ 6000000000000 := by
  unfold y_co
  by_cases q : len < L a b
  · rw [if_pos q]; omega
  · rw [if_neg q]
    by_cases q2 : b = n - 1
    · rw [if_pos q2]; omega
    · rw [if_neg q2]
      have h0 : 0 ≤ len - L a b := by omega
      have m := Int.mul_le_mul (show len - L a b ≤ 10000 by omega) (show len - L a b ≤ 10000 by omega) h0 (show (0 : Int) ≤ 10000 by decide)
      have m0 := Int.mul_nonneg h0 h0
      omega
/-- the class's cost of a line -/
theorem v_wlid {x : Int} (h : -9223372036854775808 ≤ x ∧ x ≤ 9223372036854775807) : z_wl x = x := by unfold z_wl; omega
theorem z_cmp_lt {x y : Int} : (z_cmp x y < 0 ↔ x < y) ∧ (0 ≤ z_cmp x y ↔ y ≤ x) ∧ (z_cmp x y = 0 ↔ x = y) := by
  unfold z_cmp
  by_cases h : y < x
  · rw [if_pos h]; omega
  · rw [if_neg h]
    by_cases g : x = y
    · rw [if_pos g]; omega
    · rw [if_neg g]; omega
theorem e_costFor {fu : Nat} {s : z_M} {l len t : Int} (hl : 0 ≤ len ∧ len ≤ 10000) (hL : 0 ≤ l ∧ l ≤ 6000000) : fX1_costFor fu s l len t = some (vL (if len < l then 1000000 * (l - len) else if t = 0 then (len - l) * (len - l) else 0), s) := by
  unfold fX1_costFor fX1_costFor_J29
  simp only [z_let]
  rw [v_wid (show -2147483648 ≤ len - l ∧ len - l ≤ 2147483647 by omega)]
  have c := z_cmp_lt (x := len - l) (y := 0)
  by_cases q : len < l
  · rw [if_neg (show ¬ (0 : Int) ≤ z_cmp (len - l) 0 from fun w => by have := c.2.1.mp w; omega), if_pos q, v_wlid (show -9223372036854775808 ≤ -(len - l) ∧ -(len - l) ≤ 9223372036854775807 by omega), show -(len - l) = l - len by omega, v_wlid (by omega)]
  · rw [if_pos (show (0 : Int) ≤ z_cmp (len - l) 0 from c.2.1.mpr (by omega)), if_neg q]
    by_cases t0 : t = 0
    · have h0 : 0 ≤ len - l := by omega
      have m := Int.mul_le_mul (show len - l ≤ 10000 by omega) (show len - l ≤ 10000 by omega) h0 (show (0 : Int) ≤ 10000 by decide)
      have m0 := Int.mul_nonneg h0 h0
      rw [if_pos t0, if_pos t0, v_wlid (by omega)]
    · rw [if_neg t0, if_neg t0]
section LX
variable {P : z_V → z_M → Prop} {fu : Nat} {s : z_M} {k c i n v : Int}
theorem T_getL {f : Int → z_M → z_O} (hr : z_lr k ∧ z_gr k 0 = c ∧ z_ln k = n) (h : 0 ≤ i ∧ i < n) (kk : z_T (f (s c i) s) P) : z_T (z_bL (fX4_get fu s k i) f) P :=
  T_bL (T_of ((e_lget hr.1).trans (by rw [v_rgn hr.2.1 hr.2.2 h])) (T_rL kk))
theorem T_putL {f : z_M → z_O} (hr : z_lr k ∧ z_gr k 0 = c ∧ z_ln k = n) (h : 0 ≤ i ∧ i < n) (kk : z_T (f (z_up s c i v)) P) : z_T (z_bN (fX4_put fu s k i v) f) P :=
  T_bN (T_of ((e_lput hr.1).trans (by rw [v_rpn hr.2.1 hr.2.2 h])) (T_rN kk))
end LX
/-- cells that choosing writes on, the class's -/
abbrev y_cwo (o x b : Int) : Prop := y_mw x b ∨ x = 222 ∨ x = o + 2 ∨ x = o + 4
theorem e_cbL {fu : Nat} (hfu : 8589934592 ≤ fu) {D : z_M} {E : Int → Int} {s0 : z_M} {o a len n : Int} {L : Int → Int → Int} {C B : Int → Int} (ho : y_ob4 o) (hL : ∀ x y : Int, L x y = y_LG D x y (s0 3 2)) (hC : ∀ u : Int, C u = y_cl2 E n u) (en : s0 191 16 = n) (ha : 0 ≤ a ∧ a < n) (hn : n ≤ 200) (hl : 0 ≤ len ∧ len ≤ 10000)
    (hB : ∀ b : Int, a < b → b ≤ n → 0 ≤ B b ∧ B b ≤ 6000000000000 * (n - b)) (h32 : 0 ≤ s0 3 2 ∧ s0 3 2 ≤ 6)
    {k : z_M → Int → z_O} {P : z_V → z_M → Prop} (hk : ∀ (s' : z_M) (x e : Int), y_CM D E s' s' → y_BI1 (y_co L len n) C B a n x e → s' (o + 2) a = e - a + 1 → (∀ x y : Int, ¬ y_mw x y → x ≠ 222 → ¬ (x = o + 2 ∧ y = a) → s' x y = s0 x y) → z_T (k s' x) P) :
    ∀ (m F : Nat) (s : z_M) (x b : Int), (m : Int) = n - b → m < F → a ≤ b → y_CM D E s s → (∀ x y : Int, ¬ y_mw x y → x ≠ 222 → ¬ (x = o + 2 ∧ y = a) → s x y = s0 x y) → (∀ y : Int, a < y → y ≤ n → s (o + 4) y = B y) → ((x = 9223372036854775807 ∧ y_BI0 C a b) ∨ ∃ e : Int, y_BI1 (y_co L len n) C B a b x e ∧ s (o + 2) a = e - a + 1) → z_T (fX1_chooseBest_L36 fu o len a F s x b k) P := by
  have br := v_br ho
  have oo : o = 240 ∨ o = 249 := ho
  intro m
  induction m with
  | zero =>
    intro F s x b h1 hF h3 cm f hB4 bi
    obtain ⟨F, rfl⟩ : ∃ F2, F = F2 + 1 := ⟨F - 1, by omega⟩
    have eb : b = n := by omega
    subst eb
    refine T_of (fX1_chooseBest_L36.eq_2 ..) ?_
    refine T_if1 br.1 ?_
    refine T_let 191 br.2.1 ?_
    refine T_if1 v_ob191 ?_
    refine T_let b ((f _ _ (by omega) (by omega) (by omega)).trans en) ?_
    refine T_if1 (Int.le_refl _) ?_
    rcases bi with ⟨_, w⟩ | ⟨e, w, e2⟩
    · refine absurd ?_ (w (b - 1) (by omega) (by omega))
      rw [hC]; unfold y_cl2; rw [if_pos (Or.inl rfl)]
    · exact hk s x e cm w e2 f
  | succ m ih =>
    intro F s x b h1 hF h3 cm f hB4 bi
    have biH := y_hide bi
    clear bi
    obtain ⟨F, rfl⟩ : ∃ F2, F = F2 + 1 := ⟨F - 1, by omega⟩
    have e1 : s 191 16 = n := (f _ _ (by omega) (by omega) (by omega)).trans en
    have e32 : s 3 2 = s0 3 2 := f _ _ (by omega) (by omega) (by omega)
    have d := cm.1.2.2.2.2
    rw [e1] at d
    have Lb : ∀ i : Int, a ≤ i → i < n → 0 ≤ L a i ∧ L a i ≤ 6000000 := fun i p q => by
      rw [hL]; exact y_LG_b d ha.1 q hn h32
    have so : ∀ i : Int, b ≤ i → i < n → y_sum (y_sol D) a (b + 1 - a).toNat ≤ L a i := fun i p q => by
      have g := y_so_LG (a := a) (b := i) (ln := s0 3 2) d ha.1 q hn h32
      have g2 := y_sum_pt (f := y_sol D) (a := a) (x := b + 1) (y := i + 1) (by omega) (by omega)
      have g3 := y_sum_r (f := y_sol D) (a := b + 1) (m := 2400) (i + 1 - (b + 1)).toNat (fun j p q => y_so_b d (by omega))
      rw [hL]
      omega
    have sb := y_sum_r (f := y_sol D) (a := a) (m := 2400) (b + 1 - a).toNat (fun i p q => y_so_b d (by omega))
    have nb : ((b + 1 - a).toNat : Int) ≤ 200 := by omega
    refine T_of (fX1_chooseBest_L36.eq_2 ..) ?_
    refine T_if1 br.1 ?_
    refine T_let 191 br.2.1 ?_
    refine T_if1 v_ob191 ?_
    refine T_let n e1 ?_
    refine T_if0 (show ¬ n ≤ b by omega) ?_
    refine T_if1 br.1 ?_
    refine T_let 191 br.2.1 ?_
    refine T_if1 v_ob191 ?_
    refine T_bI (T_of (e_CMsolid cm ⟨ha.1, h3⟩ (by omega)) (T_rI ?_))
    have sB := so b (Int.le_refl _) (by omega)
    generalize y_sum (y_sol D) a (b + 1 - a).toNat = S at *
    refine T_let (S - len) (v_wid (by omega)) ?_
    refine T_let (1000000 * (S - len)) (v_wlid (by omega)) ?_
    refine T_leq (fun c ec => ?_)
    have cc := z_cmp_lt (x := 1000000 * (S - len)) (y := x)
    rw [ec] at cc
    refine T_ite (fun q => ?_) (fun q => ?_)
    · refine T_if1 br.1 ?_
      refine T_bI (T_of (e_CMcloses cm ho ⟨by omega, by omega⟩) (T_rI ?_))
      rw [e1]
      refine T_ite (fun c0 => ?_) (fun c0 => ?_)
      · have nc : C b ≠ 1 := by rw [hC]; omega
        refine T_of (fX1_chooseBest_J157.eq_1 ..) ?_
        refine T_let (b + 1) (v_wid (by omega)) ?_
        refine ih F s x (b + 1) (by omega) (by omega) (by omega) cm f hB4 ?_
        rcases y_show biH with ⟨w1, w2⟩ | ⟨e, w1, w2⟩
        · exact Or.inl ⟨w1, w2.s nc⟩
        · exact Or.inr ⟨e, w1.s (fun y => absurd y nc), w2⟩
      · have cb : C b = 1 := by
          rw [hC]
          unfold y_cl2 at c0 ⊢
          by_cases w : b = n - 1 ∨ E b = 1
          · rw [if_pos w]
          · rw [if_neg w] at c0; exact absurd rfl c0
        refine T_if1 br.1 ?_
        refine T_let 220 br.2.2.1 ?_
        refine T_if1 v_220.1 ?_
        refine T_useI (e_CMlen hfu cm ⟨ha.1, h3⟩ (by omega)) (fun v s1 hq => ?_)
        obtain ⟨rfl, cm1⟩ := hq
        refine T_vI ?_
        rw [e32, ← hL]
        have f1 : ∀ x y : Int, ¬ y_mw x y → x ≠ 222 → ¬ (x = o + 2 ∧ y = a) → s1 x y = s0 x y := fun x y p q r => (cm1.2.2.2.2.2 x y p q).trans (f x y p q r)
        have B1 : ∀ y : Int, a < y → y ≤ n → s1 (o + 4) y = B y := fun y p q => (cm1.2.2.2.2.2 _ _ (by omega) (by omega)).trans (hB4 y p q)
        have o2 : s1 (o + 2) a = s (o + 2) a := cm1.2.2.2.2.2 _ _ (by omega) (by omega)
        have lb := Lb b h3 (by omega)
        have bb := hB (b + 1) (by omega) (by omega)
        have cob := y_co_b (n := n) hl lb
        have hBn : 6000000000000 * (n - (b + 1)) ≤ 6000000000000 * 200 := by omega
        have J : ∀ t : Int, t = (if b = n - 1 then 1 else 0) → z_T (fX1_chooseBest_J112 fu s1 o len a x b (L a b) len t (fun w v3 v5 => fX1_chooseBest_L36 fu o len a F w v3 v5 k) k) P := fun t et => by
          have eco : (if len < L a b then 1000000 * (L a b - len) else if t = 0 then (len - L a b) * (len - L a b) else 0) = y_co L len n a b := by
            unfold y_co
            by_cases q1 : len < L a b
            · rw [if_pos q1, if_pos q1]
            · rw [if_neg q1, if_neg q1]
              by_cases q2 : b = n - 1
              · rw [if_pos q2] at et ⊢
                rw [if_neg (by omega)]
              · rw [if_neg q2] at et ⊢
                rw [if_pos et]
          refine T_of (fX1_chooseBest_J112.eq_1 ..) ?_
          refine T_bL (T_of (e_costFor hl lb) (T_rL ?_))
          rw [eco]
          refine T_if1 br.1 ?_
          refine T_let (o + 3) br.2.2.2.2.1 ?_
          refine T_let (b + 1) (v_wid (by omega)) ?_
          refine T_if1 (v_br3 ho).1.1 ?_
          refine T_getL (v_br3 ho) ⟨by omega, by omega⟩ ?_
          rw [B1 (b + 1) (by omega) (by omega)]
          refine T_let (y_co L len n a b + B (b + 1)) (v_wlid (by omega)) ?_
          refine T_leq (fun c2 ec2 => ?_)
          have cc2 := z_cmp_lt (x := y_co L len n a b + B (b + 1)) (y := x)
          rw [ec2] at cc2
          refine T_ite (fun q2 => ?_) (fun q2 => ?_)
          · have ge := cc2.2.1.mp q2
            refine T_of (fX1_chooseBest_J157.eq_1 ..) ?_
            refine T_let (b + 1) (v_wid (by omega)) ?_
            refine ih F s1 x (b + 1) (by omega) (by omega) (by omega) cm1.at f1 B1 ?_
            rcases y_show biH with ⟨w1, w2⟩ | ⟨e, w1, w2⟩
            · omega
            · exact Or.inr ⟨e, w1.s (fun _ => ge), o2.trans w2⟩
          · have lt : y_co L len n a b + B (b + 1) < x := by
              by_cases z : x ≤ y_co L len n a b + B (b + 1)
              · exact absurd (cc2.2.1.mpr z) q2
              · omega
            refine T_if1 br.1 ?_
            refine T_let (o + 1) br.2.2.2.1 ?_
            refine T_let (b - a) (v_wid (by omega)) ?_
            refine T_let (b - a + 1) (v_wid (by omega)) ?_
            refine T_if1 (v_br1 ho).1.1 ?_
            refine T_putX (v_br1 ho) ⟨ha.1, by omega⟩ ?_
            refine T_of (fX1_chooseBest_J157.eq_1 ..) ?_
            refine T_let (b + 1) (v_wid (by omega)) ?_
            refine ih F _ _ (b + 1) (by omega) (by omega) (by omega) (cm1.self (fun x y p => z_up_k (by omega))) (fun x y p q r => (z_up_k2 r).trans (f1 x y p q r)) (fun y p q => (z_up_k (by omega)).trans (B1 y p q)) (Or.inr ⟨b, ?_, z_up_s⟩)
            rcases y_show biH with ⟨w1, w2⟩ | ⟨e, w1, w2⟩
            · exact w2.n h3 cb rfl
            · exact w1.l h3 cb rfl lt
        refine T_if1 br.1 ?_
        refine T_let 191 br.2.1 ?_
        refine T_if1 v_ob191 ?_
        refine T_let n ((f1 _ _ (by omega) (by omega) (by omega)).trans en) ?_
        refine T_let (n - 1) (v_wid (by omega)) ?_
        exact T_ite (fun q2 => J 0 (by rw [if_neg q2])) (fun q2 => J 1 (by rw [if_pos (by omega)]))
    · have ge : x ≤ 1000000 * (S - len) := by
        by_cases z : 1000000 * (S - len) < x
        · exact absurd (cc.1.mpr z) q
        · omega
      rcases y_show biH with ⟨w1, w2⟩ | ⟨e, w1, w2⟩
      · omega
      · refine hk s x e cm ⟨⟨w1.1.1, by have := w1.1.2.1; omega, w1.1.2.2⟩, fun i p r cI => ?_, w1.2.2⟩ w2 f
        by_cases z : i < b
        · exact w1.2.1 i p z cI
        · have s1 := so i (by omega) r
          have b1 := hB (i + 1) (by omega) (by omega)
          have lb := Lb i p r
          have cob := y_co_b (n := n) hl lb
          by_cases z2 : S - len ≤ 0
          · omega
          · have e3 : y_co L len n a i = 1000000 * (L a i - len) := by
              unfold y_co; rw [if_pos (by omega)]
            omega
