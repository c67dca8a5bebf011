/-! least -/
/-- a length at which lines fit: at most k of them -/
def y_PS (D : z_M) (ln T n k md len : Int) : Prop := ∃ (nx r : Int → Int) (c : Nat), y_NX (fun a b => y_LG D a b ln) (y_cl2 (y_me D T n) n) n len md nx ∧ y_LR nx r n c ∧ (c : Int) ≤ k ∧ ∀ j : Nat, j < c → y_LG D (r j) (r ((j : Int) + 1) - 1) ln ≤ len
theorem y_PS.no {D : z_M} {ln T n k md len : Int} {nx r : Int → Int} {c : Nat} (p : y_NX (fun a b => y_LG D a b ln) (y_cl2 (y_me D T n) n) n len md nx) (q : y_LR nx r n c) (h : y_PS D ln T n k md len) : (c : Int) ≤ k ∧ ∀ j : Nat, j < c → y_LG D (r j) (r ((j : Int) + 1) - 1) ln ≤ len := by
  obtain ⟨nx', r', c', p', q', hc, hf⟩ := h
  obtain ⟨ec, er⟩ := p.cnt p' q q'
  refine ⟨by omega, fun j w => ?_⟩
  have e1 := er j (by omega)
  have e2 := er (j + 1) (by omega)
  rw [show (((j + 1 : Nat)) : Int) = (j : Int) + 1 by omega] at e2
  rw [e1, e2]
  exact hf j (by omega)
/-- the least such length -/
def y_Rt2 (PS : Int → Prop) (y : Int) : Prop := (y = -1 ∧ ∀ l : Int, 12 ≤ l → l ≤ 999 → ¬ PS l) ∨ ((12 ≤ y ∧ y ≤ 999) ∧ PS y ∧ ∀ l : Int, 12 ≤ l → l < y → ¬ PS l)
theorem y_Rt2.un {PS : Int → Prop} {x y : Int} (h : y_Rt2 PS x) (h' : y_Rt2 PS y) : x = y := by
  rcases h with ⟨a, b⟩ | ⟨a, b, c⟩
  · rcases h' with ⟨a', _⟩ | ⟨a', b', _⟩
    · rw [a, a']
    · exact absurd b' (b y a'.1 a'.2)
  · rcases h' with ⟨_, b'⟩ | ⟨a', b', c'⟩
    · exact absurd b (b' x a.1 a.2)
    · by_cases z : x < y
      · exact absurd b (c' x a.1 z)
      · by_cases w : y < x
        · exact absurd b' (c y a'.1 w)
        · omega
/-- what fewest tells: no chain of fitting parts is shorter -/
def y_FP (L : Int → Int → Int) (C : Int → Int) (n md len a0 : Int) (Fv : Int → Int) : Prop := Fv n = 0 ∧ ∀ a : Int, a0 ≤ a → a < n → (0 ≤ Fv a ∧ Fv a ≤ 201) ∧ ∀ b : Int, a ≤ b → b < n → L a b ≤ len → (md = 0 ∨ C b = 1) → Fv a ≤ Fv (b + 1) + 1
theorem y_FP.chain {L : Int → Int → Int} {C : Int → Int} {n md len : Int} {Fv : Int → Int} (h : y_FP L C n md len 0 Fv) {nx r : Int → Int} {c : Nat} (lr : y_LR nx r n c) (hb : ∀ a : Int, 0 ≤ a → a < n → a < nx a ∧ nx a ≤ n) (fit : ∀ j : Nat, j < c → L (r j) (r ((j : Int) + 1) - 1) ≤ len) (cl : md = 0 ∨ ∀ j : Nat, j < c → C (r ((j : Int) + 1) - 1) = 1) : Fv 0 ≤ c := by
  have st : ∀ m k : Nat, k + m = c → Fv (r k) ≤ m := by
    intro m
    induction m with
    | zero =>
      intro k e
      have e1 := lr.1 k (by omega)
      rw [e1, show k = c by omega, lr.2.2, h.1]
      exact Int.le_refl 0
    | succ m ih =>
      intro k e
      have w := lr.SV hb (i := (k : Int)) (by omega) (by omega)
      have g := (h.2 (r k) w.1 (by omega)).2 (r ((k : Int) + 1) - 1) (by omega) (by omega) (fit k (by omega)) (cl.imp id (fun z => z k (by omega)))
      have i := ih (k + 1) (by omega)
      rw [show (((k + 1 : Nat)) : Int) = (k : Int) + 1 by omega] at i
      rw [show r ((k : Int) + 1) - 1 + 1 = r ((k : Int) + 1) by omega] at g
      omega
  have z := st c 0 (by omega)
  have e0 := lr.1 0 (Nat.zero_le c)
  have e1 : r 0 = 0 := e0
  rw [show ((0 : Nat) : Int) = 0 from rfl, e1] at z
  exact z
theorem y_NX.cl {L : Int → Int → Int} {C nx r : Int → Int} {n len md : Int} {c : Nat} (h : y_NX L C n len md nx) (lr : y_LR nx r n c) (m01 : md = 0 ∨ md = 1) : md = 0 ∨ ∀ j : Nat, j < c → C (r ((j : Int) + 1) - 1) = 1 := by
  have hb := h.b
  rcases h with ⟨m, _⟩ | ⟨m, B, En, bs, e⟩
  · exact Or.inl (m01.resolve_right m)
  · right
    intro j q
    have w := lr.SV hb (i := (j : Int)) (by omega) (by omega)
    have e1 := lr.1 j (by omega)
    have e2 := lr.1 (j + 1) (by omega)
    rw [show (((j + 1 : Nat)) : Int) = (j : Int) + 1 by omega, y_it_s, ← e1, e] at e2
    have g := (bs.2 (r j) w.1 (by omega)).1
    rw [e2, show En (r j) + 1 - 1 = En (r j) by omega]
    exact g.2.2.1
/-- so: what doesn't pass -/
theorem y_FP.ps {D : z_M} {ln T n k md len l : Int} {Fv : Int → Int} (h : y_FP (fun a b => y_LG D a b ln) (y_cl2 (y_me D T n) n) n md len 0 Fv) (m01 : md = 0 ∨ md = 1) (lt : k < Fv 0) (le : l ≤ len) : ¬ y_PS D ln T n k md l := by
  rintro ⟨nx, r, c, p, q, hc, hf⟩
  have g := h.chain q p.b (fun j w => Int.le_trans (hf j w) le) (p.cl q m01)
  omega
/-- the class's fewest: one row's places -/
theorem e_few37 {fu : Nat} (hfu : 8589934592 ≤ fu) {D : z_M} {E : Int → Int} {s0 : z_M} {o a len n md : Int} {L : Int → Int → Int} {C B : Int → Int} (ho : y_ob4 o) (hL : ∀ x y : Int, L x y = y_LG D x y (s0 3 2)) (hC : ∀ u : Int, C u = y_cl2 E n u) (en : s0 191 16 = n) (ha : 0 ≤ a ∧ a < n) (hn : n ≤ 200) (hB : ∀ y : Int, a < y → y ≤ n → s0 (o + 6) y = B y ∧ 0 ≤ B y ∧ B y ≤ 201)
    {k : z_M → Int → z_O} {P : z_V → z_M → Prop} (hk : ∀ (s' : z_M) (x : Int), y_CM D E s0 s' → (0 ≤ x ∧ x ≤ 201) → (∀ b : Int, a ≤ b → b < n → L a b ≤ len → (md = 0 ∨ C b = 1) → x ≤ B (b + 1) + 1) → z_T (k s' x) P) :
    ∀ (m F : Nat) (s : z_M) (x b : Int), (m : Int) = n - b → m < F → a ≤ b → y_CM D E s0 s → (0 ≤ x ∧ x ≤ 201) → (∀ i : Int, a ≤ i → i < b → L a i ≤ len → (md = 0 ∨ C i = 1) → x ≤ B (i + 1) + 1) → z_T (fX1_fewest_L37 fu o len md a F s x b k) P := by
  have br := v_br ho
  have oo : o = 240 ∨ o = 249 := ho
  intro m
  induction m with
  | zero =>
    intro F s x b h1 hF h3 cm hx inv
    obtain ⟨F, rfl⟩ : ∃ F2, F = F2 + 1 := ⟨F - 1, by omega⟩
    refine T_of (fX1_fewest_L37.eq_2 ..) ?_
    refine T_if1 br.1 ?_
    refine T_let 191 br.2.1 ?_
    refine T_if1 v_ob191 ?_
    refine T_let n ((cm.2.2.2.2.2 _ _ (by omega) (by omega)).trans en) ?_
    refine T_if1 (show n ≤ b by omega) ?_
    exact hk s x cm hx (fun i p q => inv i p (by omega))
  | succ m ih =>
    intro F s x b h1 hF h3 cm hx inv
    obtain ⟨F, rfl⟩ : ∃ F2, F = F2 + 1 := ⟨F - 1, by omega⟩
    have e1 : s 191 16 = n := (cm.2.2.2.2.2 _ _ (by omega) (by omega)).trans en
    have e2 : s 3 2 = s0 3 2 := cm.2.2.2.2.2 _ _ (by omega) (by omega)
    have d := cm.1.2.2.2.2
    have eB := hB (b + 1) (by omega) (by omega)
    have nxt : ∀ (s' : z_M) (x' : Int), y_CM D E s0 s' → (0 ≤ x' ∧ x' ≤ 201) → x' ≤ x → (L a b ≤ len → (md = 0 ∨ C b = 1) → x' ≤ B (b + 1) + 1) → z_T (fX1_fewest_J128 fu s' o len md a x' b (fun w v4 v5 => fX1_fewest_L37 fu o len md a F w v4 v5 k) k) P := fun s' x' cm' hx' le fit => by
      refine T_of (fX1_fewest_J128.eq_1 ..) ?_
      refine T_let (b + 1) (v_wid (by omega)) ?_
      refine ih F s' x' (b + 1) (by omega) (by omega) (by omega) cm' hx' (fun i p q f c => ?_)
      by_cases z : i = b
      · subst z; exact fit f c
      · exact Int.le_trans le (inv i p (by omega) f c)
    have no : ∀ (s' : z_M) (y : Int), y_CM D E s0 s' → (L a b ≤ len → (md = 0 ∨ C b = 1) → x ≤ B (b + 1) + 1) → z_T (fX1_fewest_J102 fu s' o len md a x b y (fun w v4 v5 => fX1_fewest_L37 fu o len md a F w v4 v5 k) k) P := fun s' y cm' fit => by
      refine T_of (fX1_fewest_J102.eq_1 ..) ?_
      refine T_of (fX1_fewest_J103.eq_1 ..) ?_
      refine T_if1 rfl ?_
      exact nxt s' x cm' hx (Int.le_refl _) fit
    have yes : ∀ s' : z_M, y_CM D E s0 s' → B (b + 1) + 1 < x → z_T (fX1_fewest_J98 fu s' o len md a x b (B (b + 1) + 1) (fun w v4 v5 => fX1_fewest_L37 fu o len md a F w v4 v5 k) k) P := fun s' cm' lt => by
      refine T_of (fX1_fewest_J98.eq_1 ..) ?_
      refine T_of (fX1_fewest_J103.eq_1 ..) ?_
      refine T_if0 (by decide) ?_
      refine T_if1 br.1 ?_
      refine T_let 220 br.2.2.1 ?_
      refine T_if1 v_220.1 ?_
      refine T_useI (e_CMlen hfu cm' ⟨ha.1, h3⟩ (by omega)) (fun v s2 hq => ?_)
      obtain ⟨rfl, cm2⟩ := hq
      refine T_vI ?_
      rw [← hL]
      refine T_ite (fun q => ?_) (fun q => ?_)
      · exact nxt s2 x cm2 hx (Int.le_refl _) (fun f => by omega)
      · exact nxt s2 _ cm2 (by omega) (by omega) (fun _ _ => Int.le_refl _)
    refine T_of (fX1_fewest_L37.eq_2 ..) ?_
    refine T_if1 br.1 ?_
    refine T_let 191 br.2.1 ?_
    refine T_if1 v_ob191 ?_
    refine T_let n e1 ?_
    refine T_if0 (show ¬ n ≤ b by omega) ?_
    refine T_if1 br.1 ?_
    refine T_let 191 br.2.1 ?_
    refine T_if1 v_ob191 ?_
    refine T_bI (T_of (e_CMsolid cm ⟨ha.1, h3⟩ (by omega)) (T_rI ?_))
    refine T_ite (fun q => ?_) (fun q => ?_)
    · refine hk s x cm hx (fun i p r f c => ?_)
      by_cases z : i < b
      · exact inv i p z f c
      · exfalso
        have g := y_so_LG (a := a) (b := i) (ln := s0 3 2) d ha.1 (by omega) (by omega) (by rw [← e2]; exact cm.2.2.1)
        rw [hL] at f
        have g2 := y_sum_pt (f := y_sol D) (a := a) (x := b + 1) (y := i + 1) (by omega) (by omega)
        have g3 := y_sum_r (f := y_sol D) (a := b + 1) (m := 2400) (i + 1 - (b + 1)).toNat (fun j p q => y_so_b d (by omega))
        omega
    · refine T_if1 br.1 ?_
      refine T_let (o + 5) br.2.2.2.2.2.1 ?_
      refine T_let (b + 1) (v_wid (by omega)) ?_
      refine T_if1 (v_br5 ho).1.1 ?_
      refine T_getX (v_br5 ho) ⟨by omega, by omega⟩ ?_
      rw [cm.2.2.2.2.2 (o + 6) (b + 1) (by omega) (by omega), eB.1]
      refine T_let (B (b + 1) + 1) (v_wid (by omega)) ?_
      refine T_ite (fun q2 => no s _ cm (fun _ _ => q2)) (fun q2 => ?_)
      refine T_ite (fun q3 => yes s cm (by omega)) (fun q3 => ?_)
      refine T_if1 br.1 ?_
      refine T_bI (T_of (e_CMcloses cm ho ⟨by omega, by omega⟩) (T_rI ?_))
      rw [e1, ← hC]
      refine T_ite (fun q4 => no s _ cm (fun _ w => ?_)) (fun q4 => yes s cm (by omega))
      rcases w with w | w
      · exact absurd w q3
      · omega
theorem e_few25 {fu : Nat} (hfu : 8589934592 ≤ fu) {D : z_M} {E : Int → Int} {s0 : z_M} {o len n md : Int} {L : Int → Int → Int} {C : Int → Int} (ho : y_ob4 o) (hL : ∀ x y : Int, L x y = y_LG D x y (s0 3 2)) (hC : ∀ u : Int, C u = y_cl2 E n u) (en : s0 191 16 = n) (hn : n ≤ 200)
    {k : z_M → z_O} {P : z_V → z_M → Prop} (hk : ∀ s' : z_M, y_CM D E s' s' → (∀ x y : Int, x ≤ 219 → s' x y = s0 x y) → y_FP L C n md len 0 (s' (o + 6)) → z_T (k s') P) :
    ∀ (m F : Nat) (s : z_M) (a : Int), (m : Int) = a + 1 → m < F → a < n → y_CM D E s s → (∀ x y : Int, x ≤ 219 → s x y = s0 x y) → y_FP L C n md len (a + 1) (s (o + 6)) → z_T (fX1_fewest_L25 fu o len md F s a k) P := by
  have br := v_br ho
  have oo : o = 240 ∨ o = 249 := ho
  intro m
  induction m with
  | zero =>
    intro F s a h1 hF h3 cm fr fp
    obtain ⟨F, rfl⟩ : ∃ F2, F = F2 + 1 := ⟨F - 1, by omega⟩
    refine T_of (fX1_fewest_L25.eq_2 ..) ?_
    refine T_if1 (show a < 0 by omega) ?_
    rw [show a + 1 = 0 by omega] at fp
    exact hk s cm fr fp
  | succ m ih =>
    intro F s a h1 hF h3 cm fr fp
    obtain ⟨F, rfl⟩ : ∃ F2, F = F2 + 1 := ⟨F - 1, by omega⟩
    refine T_of (fX1_fewest_L25.eq_2 ..) ?_
    refine T_if0 (show ¬ a < 0 by omega) ?_
    have e1 : s 191 16 = n := (fr _ _ (by decide)).trans en
    refine e_few37 hfu (D := D) (E := E) (s0 := s) (n := n) (L := L) (C := C) (B := s (o + 6)) ho (fun x y => by rw [hL, fr 3 2 (by decide)]) hC e1 ⟨by omega, h3⟩ hn (fun y p q => ⟨rfl, ?_⟩) (fun s2 x cm2 hx hf => ?_) (n - a).toNat fu s 201 a (by omega) (by omega) (Int.le_refl _) cm ⟨by decide, by decide⟩ (fun i p q => by omega)
    · by_cases z : y = n
      · rw [z, fp.1]; decide
      · exact (fp.2 y (by omega) (by omega)).1
    · refine T_of (fX1_fewest_J134.eq_1 ..) ?_
      refine T_if1 br.1 ?_
      refine T_let (o + 5) br.2.2.2.2.2.1 ?_
      refine T_if1 (v_br5 ho).1.1 ?_
      refine T_putX (v_br5 ho) ⟨by omega, by omega⟩ ?_
      refine T_let (a - 1) (by rw [v_wid (by omega)]; omega) ?_
      have row : ∀ y : Int, y ≠ a → z_up s2 (o + 6) a x (o + 6) y = s (o + 6) y := fun y w => (z_up_j w).trans (cm2.2.2.2.2.2 _ y (by omega) (by omega))
      refine ih F _ (a - 1) (by omega) (by omega) (by omega) (cm2.self (fun x y p => z_up_k (by omega))) (fun x y p => (z_up_k (by omega)).trans ((cm2.2.2.2.2.2 x y (by omega) (by omega)).trans (fr x y p))) ⟨?_, fun i p q => ?_⟩
      · rw [row n (by omega)]; exact fp.1
      · by_cases z : i = a
        · subst z
          rw [z_up_s]
          refine ⟨hx, fun b p2 q2 f c => ?_⟩
          rw [row (b + 1) (by omega)]
          exact hf b p2 q2 f c
        · rw [row i z]
          have g := fp.2 i (by omega) q
          refine ⟨g.1, fun b p2 q2 f c => ?_⟩
          rw [row (b + 1) (by omega)]
          exact g.2 b p2 q2 f c
theorem e_fewest {fu : Nat} (hfu : 8589934592 ≤ fu) {D : z_M} {E : Int → Int} {s : z_M} {o len md : Int} (ho : y_ob4 o) (cm : y_CM D E s s) :
    z_T (fX1_fewest fu s o len md) (fun v s' => ∃ Fv : Int → Int, v = vI (Fv 0) ∧ y_FP (fun x y => y_LG D x y (s 3 2)) (y_cl2 E (s 191 16)) (s 191 16) md len 0 Fv ∧ y_CM D E s' s' ∧ ∀ x y : Int, x ≤ 219 → s' x y = s x y) := by
  have br := v_br ho
  have oo : o = 240 ∨ o = 249 := ho
  have hn := cm.1.1
  refine T_of (fX1_fewest.eq_1 ..) ?_
  refine T_if1 br.1 ?_
  refine T_let (o + 5) br.2.2.2.2.2.1 ?_
  refine T_if1 br.1 ?_
  refine T_let 191 br.2.1 ?_
  refine T_if1 v_ob191 ?_
  refine T_let (s 191 16) rfl ?_
  refine T_if1 (v_br5 ho).1.1 ?_
  refine T_putX (v_br5 ho) ⟨by omega, by omega⟩ ?_
  have f0 : ∀ x y : Int, x ≤ 239 → z_up s (o + 6) (s 191 16) 0 x y = s x y := fun x y p => z_up_k (by omega)
  have g0 : z_up s (o + 6) (s 191 16) 0 (o + 6) (s 191 16) = 0 := z_up_s
  generalize z_up s (o + 6) (s 191 16) 0 = s1 at f0 g0
  have cm1 : y_CM D E s1 s1 := cm.self f0
  refine T_if1 br.1 ?_
  refine T_let 191 br.2.1 ?_
  refine T_if1 v_ob191 ?_
  refine T_let (s 191 16) (f0 _ _ (by decide)) ?_
  refine T_let (s 191 16 - 1) (v_wid (by omega)) ?_
  refine e_few25 hfu (D := D) (E := E) (s0 := s1) (n := s 191 16) (L := fun x y => y_LG D x y (s 3 2)) (C := y_cl2 E (s 191 16)) ho (fun x y => by rw [f0 3 2 (by decide)]) (fun _ => rfl) (f0 _ _ (by decide)) hn.2 (fun s2 cm2 fr fp => ?_) (s 191 16).toNat fu s1 (s 191 16 - 1) (by omega) (by omega) (by omega) cm1 (fun _ _ _ => rfl) ⟨g0, fun a p q => by omega⟩
  refine T_if1 br.1 ?_
  refine T_let (o + 5) br.2.2.2.2.2.1 ?_
  refine T_if1 (v_br5 ho).1.1 ?_
  refine T_getX (v_br5 ho) (by decide) ?_
  exact T_ret ⟨s2 (o + 6), rfl, fp, cm2, fun x y p => (fr x y p).trans (f0 x y (by omega))⟩
/-- the class's lines, whether they fit -/
theorem e_tooLong4 {fu : Nat} (hfu : 8589934592 ≤ fu) {D : z_M} {E : Int → Int} {s0 : z_M} {o len n : Int} {nx : Int → Int} {c : Nat} {k : z_M → Int → z_O} {P : z_V → z_M → Prop} (ho : y_ob4 o) (cm0 : y_CM D E s0 s0) (en : s0 191 16 = n) (ls : y_LS2 o s0 n nx c)
    (hk : ∀ (s' : z_M) (t : Int), y_CM D E s0 s' → (t = 0 ↔ ∀ j : Nat, j < c → y_LG D (s0 (o + 8) j) (s0 (o + 8) ((j : Int) + 1) - 1) (s0 3 2) ≤ len) → z_T (k s' t) P) :
    ∀ (m F : Nat) (s : z_M) (t i : Int) (j : Nat), j + m = c → m < F → i = (j : Int) → (0 ≤ t ∧ t ≤ j) → (t = 0 ↔ ∀ l : Nat, l < j → y_LG D (s0 (o + 8) l) (s0 (o + 8) ((l : Int) + 1) - 1) (s0 3 2) ≤ len) → y_CM D E s0 s → z_T (fX1_tooLong_L4 fu o len F s t i k) P := by
  have br := v_br ho
  have oo : o = 240 ∨ o = 249 := ho
  have hn := cm0.1.1
  intro m
  induction m with
  | zero =>
    intro F s t i j h1 hF hi ht hz cm
    obtain ⟨F, rfl⟩ : ∃ F2, F = F2 + 1 := ⟨F - 1, by omega⟩
    have e6 : s o 6 = c := (cm.2.2.2.2.2 _ _ (by omega) (by omega)).trans ls.1
    refine T_of (fX1_tooLong_L4.eq_2 ..) ?_
    refine T_if1 br.1 ?_
    refine T_let (c : Int) e6 ?_
    refine T_if1 (show (c : Int) ≤ i by omega) ?_
    have jc : j = c := by omega
    subst jc
    exact hk s t cm hz
  | succ m ih =>
    intro F s t i j h1 hF hi ht hz cm
    obtain ⟨F, rfl⟩ : ∃ F2, F = F2 + 1 := ⟨F - 1, by omega⟩
    have e6 : s o 6 = c := (cm.2.2.2.2.2 _ _ (by omega) (by omega)).trans ls.1
    have w := ls.at (i := i) (by omega) (by omega)
    have c200 : (c : Int) ≤ 200 := by have := ls.2.1; omega
    subst hi
    refine T_of (fX1_tooLong_L4.eq_2 ..) ?_
    refine T_if1 br.1 ?_
    refine T_let (c : Int) e6 ?_
    refine T_if0 (show ¬ (c : Int) ≤ (j : Int) by omega) ?_
    refine T_if1 br.1 ?_
    refine T_useI (e_longOfLine hfu ho cm (i := (j : Int)) ⟨by omega, by omega⟩ w.1 (by rw [en]; exact w.2) hn.2) (fun v s1 hq => ?_)
    obtain ⟨rfl, cm1⟩ := hq
    refine T_vI ?_
    have fin : ∀ z : Int, (z = 0 ∨ z = 1) → (z = 0 ↔ y_LG D (s0 (o + 8) j) (s0 (o + 8) ((j : Int) + 1) - 1) (s0 3 2) ≤ len) → z_T (fX1_tooLong_J27 fu s1 o len (j : Int) t z (fun w v2 v3 => fX1_tooLong_L4 fu o len F w v2 v3 k) k) P := fun z z01 e => by
      refine T_of (fX1_tooLong_J27.eq_1 ..) ?_
      refine T_let (t + z) (v_wid (by omega)) ?_
      refine T_let ((j : Int) + 1) (v_wid (by omega)) ?_
      refine ih F s1 _ _ (j + 1) (by omega) (by omega) (by omega) (by omega) ⟨fun q l r => ?_, fun q => ?_⟩ cm1
      · by_cases y : l = j
        · subst y; exact e.mp (by omega)
        · exact hz.mp (by omega) l (by omega)
      · have a := hz.mpr (fun l r => q l (by omega))
        have b := e.mpr (q j (by omega))
        omega
    refine T_ite (fun q => fin 0 (Or.inl rfl) ⟨fun _ => q, fun _ => rfl⟩) (fun q => fin 1 (Or.inr rfl) ⟨fun x => absurd x (by decide), fun x => absurd x q⟩)
theorem e_tooLong {fu : Nat} (hfu : 8589934592 ≤ fu) {D : z_M} {E : Int → Int} {s : z_M} {o len n : Int} {nx : Int → Int} {c : Nat} (ho : y_ob4 o) (cm : y_CM D E s s) (en : s 191 16 = n) (ls : y_LS2 o s n nx c) :
    z_T (fX1_tooLong fu s o len) (fun v s' => ∃ t, v = vI t ∧ y_CM D E s s' ∧ (t = 0 ↔ ∀ j : Nat, j < c → y_LG D (s (o + 8) j) (s (o + 8) ((j : Int) + 1) - 1) (s 3 2) ≤ len)) := by
  have hn := cm.1.1
  have c1 := ls.2.1
  refine T_of (fX1_tooLong.eq_1 ..) ?_
  refine e_tooLong4 hfu ho cm en ls (fun s' t cm' e => ?_) c fu s 0 0 0 (by omega) (by omega) rfl ⟨Int.le_refl 0, by omega⟩ ⟨fun _ l r => by omega, fun _ => rfl⟩ cm
  exact T_ret ⟨t, rfl, cm', e⟩
/-- states of the class's search -/
def y_G9 (D s0 s : z_M) : Prop := y_CM D (y_me D (s0 3 7) (s0 191 16)) s s ∧ ∀ x y : Int, x ≤ 219 → s x y = s0 x y
abbrev y_P9 (D s0 : z_M) (k md l : Int) : Prop := y_PS D (s0 3 2) (s0 3 7) (s0 191 16) k md l
theorem e_short19 {fu : Nat} (hfu : 8589934592 ≤ fu) {D s0 : z_M} {q md : Int} {k : z_M → Int → z_O} {P : z_V → z_M → Prop} (m01 : md = 0 ∨ md = 1) (hk : ∀ (s' : z_M) (x : Int), y_G9 D s0 s' → (12 ≤ x ∧ x ≤ 1000) → (∀ l : Int, 12 ≤ l → l < x → ¬ y_P9 D s0 q md l) → z_T (k s' x) P) :
    ∀ (m F : Nat) (s : z_M) (a b : Int), b - a ≤ (m : Int) → m < F → 12 ≤ a → a ≤ b → b ≤ 1000 → y_G9 D s0 s → (∀ l : Int, 12 ≤ l → l < a → ¬ y_P9 D s0 q md l) → z_T (fX11_shortestFor_L19 fu 1 q md F s a b k) P := by
  have o9 : y_ob4 249 := Or.inr rfl
  intro m
  induction m with
  | zero =>
    intro F s a b h1 hF h2 h3 h4 g inv
    obtain ⟨F, rfl⟩ : ∃ F2, F = F2 + 1 := ⟨F - 1, by omega⟩
    refine T_of (fX11_shortestFor_L19.eq_2 ..) ?_
    refine T_if1 (show b ≤ a by omega) ?_
    exact hk s a g ⟨h2, by omega⟩ inv
  | succ m ih =>
    intro F s a b h1 hF h2 h3 h4 g inv
    obtain ⟨F, rfl⟩ : ∃ F2, F = F2 + 1 := ⟨F - 1, by omega⟩
    refine T_of (fX11_shortestFor_L19.eq_2 ..) ?_
    refine T_ite (fun z => hk s a g ⟨h2, by omega⟩ inv) (fun z => ?_)
    refine T_let (a + b) (v_wid (by omega)) ?_
    refine T_if1 (by decide) ?_
    refine T_let ((a + b) / 2) (by rw [v_td2 (by omega)]; exact v_wid (by omega)) ?_
    refine T_if1 v_ob1 ?_
    refine T_let 249 v_g1_9 ?_
    refine T_if1 (v_br o9).1 ?_
    refine T_useI (e_fewest hfu (len := (a + b) / 2) (md := md) o9 g.1) (fun v s1 hq => ?_)
    obtain ⟨Fv, rfl, fp, cm1, f1⟩ := hq
    refine T_vI ?_
    have g1 : y_G9 D s0 s1 := ⟨cm1, fun x y p => (f1 x y p).trans (g.2 x y p)⟩
    rw [g.2 3 2 (by decide), g.2 191 16 (by decide)] at fp
    refine T_ite (fun w => ?_) (fun w => ?_)
    · refine T_let ((a + b) / 2 + 1) (v_wid (by omega)) ?_
      refine T_of (fX11_shortestFor_J59.eq_1 ..) ?_
      refine ih F s1 _ _ (by omega) (by omega) (by omega) (by omega) h4 g1 (fun l p r => ?_)
      exact fp.ps m01 w (by omega)
    · refine T_of (fX11_shortestFor_J59.eq_1 ..) ?_
      exact ih F s1 _ _ (by omega) (by omega) h2 (by omega) (by omega) g1 inv
theorem e_shortestFor {fu : Nat} (hfu : 8589934592 ≤ fu) {D s0 s : z_M} {q md : Int} (m01 : md = 0 ∨ md = 1) (g : y_G9 D s0 s) : z_T (fX11_shortestFor fu s 1 q md) (fun v s' => ∃ x, v = vI x ∧ y_G9 D s0 s' ∧ (12 ≤ x ∧ x ≤ 1000) ∧ ∀ l : Int, 12 ≤ l → l < x → ¬ y_P9 D s0 q md l) := by
  refine T_of (fX11_shortestFor.eq_1 ..) ?_
  refine T_pick (by decide) (fun x e _ => ?_)
  have ex : x = 12 := e.symm.trans v_pk0.1
  refine T_pick (by decide) (fun y e' _ => ?_)
  have ey : y = 999 := e'.symm.trans v_pk0.2
  clear e e'
  subst ex
  subst ey
  refine T_let 1000 (by decide +kernel) ?_
  exact e_short19 hfu m01 (fun s' x g' hx inv => T_ret ⟨x, rfl, g', hx, inv⟩) 988 fu s 12 1000 (by omega) (by omega) (by omega) (by omega) (by omega) g (fun l p r => by omega)
theorem e_least38 {fu : Nat} (hfu : 8589934592 ≤ fu) {D s0 : z_M} {q md : Int} {R : Int → Prop} (hR : ∀ x : Int, y_Rt2 (y_P9 D s0 q md) x → R x) :
    ∀ (m F : Nat) (s : z_M) (l : Int), 1000 - l ≤ (m : Int) → m < F → (12 ≤ l ∧ l ≤ 1000) → y_G9 D s0 s → (∀ i : Int, 12 ≤ i → i < l → ¬ y_P9 D s0 q md i) → z_T (fX11_least_L38 fu 1 q md 999 F s l (fun s18 => some (vI (-1), s18))) (fun v _ => ∃ x, v = vI x ∧ R x) := by
  have o9 : y_ob4 249 := Or.inr rfl
  intro m
  induction m with
  | zero =>
    intro F s l h1 hF h2 g inv
    obtain ⟨F, rfl⟩ : ∃ F2, F = F2 + 1 := ⟨F - 1, by omega⟩
    refine T_of (fX11_least_L38.eq_2 ..) ?_
    refine T_if1 (show (999 : Int) < l by omega) ?_
    exact T_ret ⟨-1, rfl, hR _ (Or.inl ⟨rfl, fun i p r => inv i p (by omega)⟩)⟩
  | succ m ih =>
    intro F s l h1 hF h2 g inv
    obtain ⟨F, rfl⟩ : ∃ F2, F = F2 + 1 := ⟨F - 1, by omega⟩
    refine T_of (fX11_least_L38.eq_2 ..) ?_
    refine T_ite (fun z => T_ret ⟨-1, rfl, hR _ (Or.inl ⟨rfl, fun i p r => inv i p (by omega)⟩)⟩) (fun z => ?_)
    refine T_if1 v_ob1 ?_
    refine T_let 249 v_g1_9 ?_
    refine T_if1 (v_br o9).1 ?_
    refine T_useN (e_go hfu (o := 249) (len := l) (md := md) o9 g.1 rfl (show 0 ≤ l ∧ l ≤ 10000 by omega)) (fun v s1 hq => ?_)
    obtain ⟨rfl, ⟨nx, c, p1, p2, p3, p4⟩, cm1, f1⟩ := hq
    refine T_vN ?_
    have fr1 : ∀ x y : Int, x ≤ 219 → s1 x y = s x y := fun x y p => f1 x y (by omega)
    have g1 : y_G9 D s0 s1 := ⟨cm1, fun x y p => (fr1 x y p).trans (g.2 x y p)⟩
    rw [g.2 3 2 (by decide), g.2 191 16 (by decide)] at p1
    rw [g.2 191 16 (by decide)] at p2 p4
    have next : ∀ s' : z_M, y_G9 D s0 s' → ¬ y_P9 D s0 q md l → z_T (fX11_least_J80 fu s' 1 q md 999 l (fun w v4 => fX11_least_L38 fu 1 q md 999 F w v4 (fun s18 => some (vI (-1), s18))) (fun s18 => some (vI (-1), s18))) (fun v _ => ∃ x, v = vI x ∧ R x) := fun s' g' no => by
      refine T_of (fX11_least_J80.eq_1 ..) ?_
      refine T_let (l + 1) (v_wid (by omega)) ?_
      refine ih F s' (l + 1) (by omega) (by omega) (by omega) g' (fun i p r => ?_)
      by_cases y : i = l
      · rw [y]; exact no
      · exact inv i p (by omega)
    refine T_if1 v_ob1 ?_
    refine T_let 249 v_g1_9 ?_
    refine T_if1 (v_br o9).1 ?_
    refine T_let (c : Int) p3 ?_
    refine T_ite (fun w => next s1 g1 (fun h => by have := (h.no p1 p4).1; omega)) (fun w => ?_)
    refine T_if1 v_ob1 ?_
    refine T_let 249 v_g1_9 ?_
    refine T_if1 (v_br o9).1 ?_
    have ls : y_LS2 249 s1 (s0 191 16) nx c := ⟨p3, p2, p4, p1.b⟩
    refine T_useI (e_tooLong hfu (len := l) o9 cm1 (g1.2 191 16 (by decide)) ls) (fun v s2 hq => ?_)
    obtain ⟨t, rfl, cm2, et⟩ := hq
    refine T_vI ?_
    rw [g1.2 3 2 (by decide)] at et
    have g2 : y_G9 D s0 s2 := ⟨cm2.at, fun x y p => (cm2.2.2.2.2.2 x y (by omega) (by omega)).trans (g1.2 x y p)⟩
    refine T_ite (fun y => next s2 g2 (fun h => y (et.mpr (h.no p1 p4).2))) (fun y => ?_)
    exact T_ret ⟨l, rfl, hR _ (Or.inr ⟨by omega, ⟨nx, _, c, p1, p4, by omega, et.mp (by omega)⟩, inv⟩)⟩
theorem e_cleast {fu : Nat} (hfu : 8589934592 ≤ fu) {s : z_M} (c : z_CI s) (h : y_V3 s) (hk : ∀ sr, y_RF s sr → y_OKc sr ∧ (0 ≤ sr 3 3 ∧ sr 3 3 ≤ 1)) {q : Int} : z_T (fX11_least fu s 1 q) (fun v _ => y_QR s v (1 ≤ q ∧ q ≤ 200) (fun sr x => y_Rt2 (fun l => y_PS (y_dc sr) (sr 3 2) (sr 3 7) (sr 191 16) q (sr 3 3) l) x)) := by
  refine T_of (fX11_least.eq_1 ..) ?_
  refine T_if1 v_ob1 ?_
  refine T_nwn (fun n => T_ret (Or.inl ⟨n, rfl⟩)) (fun h0 h1 => ?_)
  refine T_if1 v_ob1 ?_
  refine T_useN (e_freshK hfu c h) (fun v sr hq => ?_)
  obtain ⟨rfl, rf, u3, _⟩ := hq
  refine T_vN ?_
  obtain ⟨ok, m3⟩ := hk sr rf
  have g : y_G9 (y_dc sr) sr sr := ⟨ok.CM (u3.2 ok), fun _ _ _ => rfl⟩
  refine T_if1 v_ob1 ?_
  refine T_let 2 v_g1_0 ?_
  refine T_if1 v_s2.1.1 ?_
  refine T_getX v_s2 (by decide) ?_
  refine T_pick (by decide) (fun x e _ => ?_)
  have ex : x = 999 := e.symm.trans v_pk0.2
  clear e
  subst ex
  refine T_if1 v_ob1 ?_
  refine T_useI (e_shortestFor hfu (q := q) (md := sr 3 3) (by omega) g) (fun v s1 hq => ?_)
  obtain ⟨x, rfl, g1, hx, inv⟩ := hq
  refine T_vI ?_
  refine T_mono (e_least38 hfu (R := fun x => y_Rt2 (y_P9 (y_dc sr) sr q (sr 3 3)) x) (fun _ w => w) 988 fu s1 x (by omega) (by omega) hx g1 inv) (fun v s2 hq => ?_)
  obtain ⟨y, rfl, ry⟩ := hq
  exact Or.inr ⟨⟨h0, h1⟩, sr, y, rf, rfl, ry⟩
/-- the reference's: lines, one behind the other, until one doesn't fit -/
theorem em_least74 {fu : Nat} (hfu : 8589934592 ≤ fu) {D s0 : z_M} {q len n : Int} {nx : Int → Int} {c : Nat} {k : z_M → Int → z_O} {P : z_V → z_M → Prop} (mk0 : y_Mk D s0 s0) (en : s0 309 20 = n) (cn : (c : Int) ≤ n) (lr : y_LR nx (s0 3438) n c) (hb : ∀ a : Int, 0 ≤ a → a < n → a < nx a ∧ nx a ≤ n) (t0 : Int)
    (hk : ∀ (s' : z_M) (t : Int), y_Mk D s0 s' → (t ≠ 0 ↔ t0 ≠ 0 ∧ ∀ j : Nat, j < c → y_LG D (s0 3438 j) (s0 3438 ((j : Int) + 1) - 1) (s0 312 2) ≤ len) → z_T (k s' t) P) :
    ∀ (m F : Nat) (s : z_M) (t i : Int) (j : Nat), j + m = c → m < F → i = (j : Int) → (t ≠ 0 ↔ t0 ≠ 0 ∧ ∀ l : Nat, l < j → y_LG D (s0 3438 l) (s0 3438 ((l : Int) + 1) - 1) (s0 312 2) ≤ len) → y_Mk D s0 s → z_T (fX12_least_L74 fu 309 q len (c : Int) F s t i k) P := by
  have hn := mk0.1.1.1
  intro m
  induction m with
  | zero =>
    intro F s t i j h1 hF hi ht mk
    obtain ⟨F, rfl⟩ : ∃ F2, F = F2 + 1 := ⟨F - 1, by omega⟩
    refine T_of (fX12_least_L74.eq_2 ..) ?_
    refine T_if1 (show (c : Int) ≤ i by omega) ?_
    have jc : j = c := by omega
    subst jc
    exact hk s t mk ht
  | succ m ih =>
    intro F s t i j h1 hF hi ht mk
    obtain ⟨F, rfl⟩ : ∃ F2, F = F2 + 1 := ⟨F - 1, by omega⟩
    have w := lr.SV hb (i := i) (by omega) (by omega)
    subst hi
    have r3 : ∀ b : Int, s 3438 b = s0 3438 b := fun b => mk.2.2.2 3438 b (by omega) (by omega) (by omega)
    refine T_of (fX12_least_L74.eq_2 ..) ?_
    refine T_if0 (show ¬ (c : Int) ≤ (j : Int) by omega) ?_
    refine T_ite (fun z => ?_) (fun z => ?_)
    · refine hk s t mk ⟨fun y => absurd z y, fun y => ?_⟩
      exact absurd z (ht.mpr ⟨y.1, fun l r => y.2 l (by omega)⟩)
    · refine T_if1 v_ob309 ?_
      refine T_let 3438 v_gm45 ?_
      refine T_if1 (v_x3438 ⟨by omega, by omega⟩) ?_
      refine T_let (s0 3438 j) (r3 _) ?_
      refine T_if1 v_ob309 ?_
      refine T_let 3438 v_gm45 ?_
      refine T_let ((j : Int) + 1) (v_wid (by omega)) ?_
      refine T_if1 (v_x3438 ⟨by omega, by omega⟩) ?_
      refine T_let (s0 3438 ((j : Int) + 1)) (r3 _) ?_
      refine T_let (s0 3438 ((j : Int) + 1) - 1) (v_wid (by omega)) ?_
      refine T_if1 v_ob309 ?_
      refine T_useI (em_MKlen hfu mk ⟨w.1, by omega⟩ (by omega)) (fun v s1 hq => ?_)
      obtain ⟨rfl, mk1⟩ := hq
      refine T_vI ?_
      have tt := ht.mp z
      have fin : ∀ x : Int, (x ≠ 0 ↔ y_LG D (s0 3438 j) (s0 3438 ((j : Int) + 1) - 1) (s0 312 2) ≤ len) → z_T (fX12_least_J116 fu s1 309 q len (c : Int) (j : Int) x (fun w v4 v5 => fX12_least_L74 fu 309 q len (c : Int) F w v4 v5 k) k) P := fun x e => by
        refine T_of (fX12_least_J116.eq_1 ..) ?_
        refine T_let ((j : Int) + 1) (v_wid (by omega)) ?_
        refine ih F s1 x _ (j + 1) (by omega) (by omega) (by omega) ⟨fun y => ⟨tt.1, fun l r => ?_⟩, fun y => e.mpr (y.2 j (by omega))⟩ mk1
        by_cases g : l = j
        · subst g; exact e.mp y
        · exact tt.2 l (by omega)
      refine T_ite (fun g => fin 0 ⟨fun y => absurd rfl y, fun y => by omega⟩) (fun g => fin 1 ⟨fun _ => by omega, fun _ => by decide⟩)
theorem em_least40 {fu : Nat} (hfu : 8589934592 ≤ fu) {D s0 : z_M} {q md : Int} {R : Int → Prop} (hR : ∀ x : Int, y_Rt2 (fun l => y_PS D (s0 312 2) (s0 312 7) (s0 309 20) q md l) x → R x) (e3 : s0 312 3 = md) :
    ∀ (m F : Nat) (s : z_M) (l : Int), 1000 - l ≤ (m : Int) → m < F → (12 ≤ l ∧ l ≤ 1000) → (y_Mk D s s ∧ s 309 20 = s0 309 20 ∧ (∀ j : Int, s 312 j = s0 312 j) ∧ s 309 0 = 0) → (∀ i : Int, 12 ≤ i → i < l → ¬ y_PS D (s0 312 2) (s0 312 7) (s0 309 20) q md i) → z_T (fX12_least_L40 fu 309 q F s l (fun s23 => some (vI (-1), s23))) (fun v s' => ∃ x, v = vI x ∧ R x ∧ s' 309 0 = 0) := by
  intro m
  induction m with
  | zero =>
    intro F s l h1 hF h2 g inv
    obtain ⟨F, rfl⟩ : ∃ F2, F = F2 + 1 := ⟨F - 1, by omega⟩
    refine T_of (fX12_least_L40.eq_2 ..) ?_
    refine T_if1 (show (999 : Int) < l by omega) ?_
    exact T_ret ⟨-1, rfl, hR _ (Or.inl ⟨rfl, fun i p r => inv i p (by omega)⟩), g.2.2.2⟩
  | succ m ih =>
    intro F s l h1 hF h2 g inv
    obtain ⟨F, rfl⟩ : ∃ F2, F = F2 + 1 := ⟨F - 1, by omega⟩
    refine T_of (fX12_least_L40.eq_2 ..) ?_
    refine T_ite (fun z => T_ret ⟨-1, rfl, hR _ (Or.inl ⟨rfl, fun i p r => inv i p (by omega)⟩), g.2.2.2⟩) (fun z => ?_)
    obtain ⟨mk, g20, g12, g0⟩ := g
    have hn := mk.1.1.1
    refine T_if1 v_ob309 ?_
    refine T_let 312 v_gm9 ?_
    refine T_if1 (v_x312 (by decide)) ?_
    refine T_let md ((g12 3).trans e3) ?_
    refine T_if1 v_ob309 ?_
    refine T_useI (em_breaks hfu (len := l) (md := md) mk g20 (show 0 ≤ l ∧ l ≤ 10000 by omega)) (fun v s1 hq => ?_)
    obtain ⟨nx, c, rfl, p1, p2, p3, mk1, fl⟩ := hq
    refine T_vI ?_
    rw [g12 2, g12 7] at p1
    have e20 : s1 309 20 = s0 309 20 := (fl _ _ (by omega) (by omega) (by omega) (by omega)).trans g20
    have e12 : ∀ j : Int, s1 312 j = s0 312 j := fun j => (fl _ _ (by omega) (by omega) (by omega) (by omega)).trans (g12 j)
    have e0 : s1 309 0 = 0 := (fl _ _ (by omega) (by omega) (by omega) (by omega)).trans g0
    have fin : ∀ t : Int, (t ≠ 0 ↔ (c : Int) ≤ q) → z_T (fX12_least_J69 fu s1 309 q l (c : Int) t (fun w v2 => fX12_least_L40 fu 309 q F w v2 (fun s23 => some (vI (-1), s23))) (fun s23 => some (vI (-1), s23))) (fun v s' => ∃ x, v = vI x ∧ R x ∧ s' 309 0 = 0) := fun t et => by
      refine T_of (fX12_least_J69.eq_1 ..) ?_
      refine em_least74 hfu (D := D) (s0 := s1) (len := l) (n := s0 309 20) mk1 e20 p2 p3 p1.b t (fun s2 x mk2 ex => ?_) c fu s1 t 0 0 (by omega) (by omega) rfl ⟨fun y => ⟨y, fun l r => by omega⟩, fun y => y.1⟩ mk1
      rw [e12 2] at ex
      refine T_of (fX12_least_J124.eq_1 ..) ?_
      refine T_ite (fun y => ?_) (fun y => ?_)
      · refine T_let (l + 1) (v_wid (by omega)) ?_
        refine ih F s2 (l + 1) (by omega) (by omega) (by omega) ⟨mk2.at, mk2.e20.trans e20, fun j => (mk2.e12 j).trans (e12 j), (mk2.2.2.2 309 0 (by omega) (by omega) (by omega)).trans e0⟩ (fun i p r => ?_)
        by_cases u : i = l
        · rw [u]
          intro h
          have w := h.no p1 p3
          exact absurd y (ex.mpr ⟨et.mpr w.1, w.2⟩)
        · exact inv i p (by omega)
      · have w := ex.mp y
        exact T_ret ⟨l, rfl, hR _ (Or.inr ⟨by omega, ⟨nx, _, c, p1, p3, et.mp w.1, w.2⟩, inv⟩), (mk2.2.2.2 309 0 (by omega) (by omega) (by omega)).trans e0⟩
    refine T_ite (fun y => fin 0 ⟨fun w => absurd rfl w, fun w => by omega⟩) (fun y => fin 1 ⟨fun _ => by omega, fun _ => by decide⟩)
theorem em_least {fu : Nat} (hfu : 8589934592 ≤ fu) {D s : z_M} (mk : y_Mk D s s) {q : Int} : z_T (fX12_least fu s 309 q) (fun v s' => ∃ y, v = vI y ∧ y_AR1 s' (1 ≤ q ∧ q ≤ 200) (fun y => y_Rt2 (fun l => y_PS D (s 312 2) (s 312 7) (s 309 20) q (s 312 3) l) y) y) := by
  refine T_of (fX12_least.eq_1 ..) ?_
  refine T_if1 v_ob309 ?_
  refine T_up ?_
  obtain ⟨e0, kk⟩ := em_zero (s := s)
  generalize z_up s 309 0 0 = s1 at e0 kk
  have mk1 := mk.z kk
  refine T_bI (T_of em_in (T_rI ?_))
  by_cases h : 1 ≤ q ∧ q ≤ 200
  · rw [if_pos h]
    refine T_if1 (by decide) ?_
    refine T_of (fX12_least_J22.eq_1 ..) ?_
    refine T_if1 v_ob309 ?_
    refine T_bI (T_of (em_bad0 e0) (T_rI ?_))
    refine T_if1 rfl ?_
    refine T_if1 ⟨v_ob309, bl0⟩ ?_
    refine T_up ?_
    have f3 : ∀ x y : Int, ¬ (x = 309 ∧ y = 43) → z_up s1 309 43 0 x y = s1 x y := fun x y w => z_up_k2 w
    generalize z_up s1 309 43 0 = s3 at f3
    have mk3 : y_Mk D s3 s3 := ⟨mk1.1.fr (f3 _ _ (by decide)) (fun x y p q => f3 x y (by omega)) (fun i _ => f3 _ _ (by omega)), mk1.2.1.imp (fun w => (f3 _ _ (by decide)).trans w) (fun w => w.fr mk1.1.1.1.2 (f3 _ _ (by decide)) (f3 _ _ (by decide)) (f3 _ _ (by decide)) (fun x b _ => f3 x b (by omega)) (fun b => ⟨f3 _ _ (by omega), f3 _ _ (by omega)⟩) (f3 _ _ (by decide)) (f3 _ _ (by decide))), by rw [f3 312 7 (by decide), f3 312 2 (by decide)]; exact mk1.2.2.1, fun _ _ _ _ _ => rfl⟩
    refine T_mono (em_least40 hfu (D := D) (s0 := s) (q := q) (md := s 312 3) (R := fun y => y_Rt2 (fun l => y_PS D (s 312 2) (s 312 7) (s 309 20) q (s 312 3) l) y) (fun _ w => w) rfl 988 fu s3 12 (by omega) (by omega) (by omega) ⟨mk3, (f3 _ _ (by decide)).trans (kk _ _ (by decide)), fun j => (f3 _ _ (by omega)).trans (kk _ _ (by omega)), (f3 _ _ (by decide)).trans e0⟩ (fun i p r => by omega)) (fun v s' hq => ?_)
    obtain ⟨y, rfl, ry, z0⟩ := hq
    exact ⟨y, rfl, Or.inr ⟨h, z0, ry⟩⟩
  · rw [if_neg h]
    refine T_if0 (by decide) ?_
    refine T_of (fX12_least_J22.eq_1 ..) ?_
    refine T_if1 v_ob309 ?_
    refine T_useI (em_bad1 e0 (by decide) (Or.inr rfl)) (fun v s2 hq => ?_)
    obtain ⟨rfl, q1, _⟩ := hq
    refine T_vI ?_
    refine T_if0 (by decide) ?_
    exact T_ret ⟨_, rfl, Or.inl ⟨h, q1⟩⟩
theorem q_least {g s : z_M} (b : y_BT g s) {q x y : Int} (h : y_Rt2 (fun l => y_PS (y_dc g) (g 3 2) (g 3 7) (g 191 16) q (g 3 3) l) x) (h' : y_Rt2 (fun l => y_PS (y_dm s) (s 312 2) (s 312 7) (s 309 20) q (s 312 3) l) y) : x = y := by
  rw [b.n, b.D, b.2.2.2.2.2 2, b.2.2.2.2.2 7, b.2.2.2.2.2 3] at h
  exact h.un h'
