/-! costs of lines; better -/
def y_cs (co : Int → Int → Int) (r : Int → Int) : Nat → Int
  | 0 => 0
  | k + 1 => y_cs co r k + co (r k) (r ((k : Int) + 1) - 1)
theorem y_cs_s {co : Int → Int → Int} {r : Int → Int} {k : Nat} : y_cs co r (k + 1) = y_cs co r k + co (r k) (r ((k : Int) + 1) - 1) := rfl
theorem y_cs_cg {co co' : Int → Int → Int} {r r' : Int → Int} : ∀ c : Nat, (∀ k : Nat, k ≤ c → r k = r' k) → (∀ x y : Int, co x y = co' x y) → y_cs co r c = y_cs co' r' c := by
  intro c
  induction c with
  | zero => intro _ _; rfl
  | succ c ih =>
    intro hr hc
    have e := hr (c + 1) (Nat.le_refl _)
    rw [show (((c + 1 : Nat)) : Int) = (c : Int) + 1 by omega] at e
    rw [y_cs_s, y_cs_s, ih (fun k p => hr k (by omega)) hc, hr c (by omega), e, hc]
theorem y_cs_b {co : Int → Int → Int} {r : Int → Int} {c : Nat} (h : ∀ k : Nat, k < c → 0 ≤ co (r k) (r ((k : Int) + 1) - 1) ∧ co (r k) (r ((k : Int) + 1) - 1) ≤ 6000000000000) : ∀ k : Nat, k ≤ c → 0 ≤ y_cs co r k ∧ y_cs co r k ≤ 6000000000000 * (k : Int) := by
  intro k
  induction k with
  | zero => intro _; exact ⟨Int.le_refl 0, Int.le_refl 0⟩
  | succ k ih =>
    intro q
    have a := ih (by omega)
    have b := h k (by omega)
    rw [y_cs_s]
    omega
/-- a line of the class's: from, to -/
theorem e_longOfLine {fu : Nat} (hfu : 8589934592 ≤ fu) {D : z_M} {E : Int → Int} {s0 s : z_M} {o i : Int} (ho : y_ob4 o) (h : y_CM D E s0 s) (hi : 0 ≤ i ∧ i < 200) (h0 : 0 ≤ s0 (o + 8) i ∧ s0 (o + 8) i < s0 (o + 8) (i + 1)) (h1 : s0 (o + 8) (i + 1) ≤ s0 191 16) (hn : s0 191 16 ≤ 200) :
    z_T (fX1_longOfLine fu s o i) (fun v s' => v = vI (y_LG D (s0 (o + 8) i) (s0 (o + 8) (i + 1) - 1) (s0 3 2)) ∧ y_CM D E s0 s') := by
  have br := v_br ho
  have r7 := v_br7 ho
  have oo : o = 240 ∨ o = 249 := ho
  have fr : ∀ b : Int, s (o + 8) b = s0 (o + 8) b := fun b => h.2.2.2.2.2 _ b (by omega) (by omega)
  refine T_of (fX1_longOfLine.eq_1 ..) ?_
  refine T_if1 br.1 ?_
  refine T_let 220 br.2.2.1 ?_
  refine T_if1 br.1 ?_
  refine T_let (o + 7) br.2.2.2.2.2.2 ?_
  refine T_if1 r7.1.1 ?_
  refine T_getX r7 ⟨hi.1, by omega⟩ ?_
  refine T_if1 br.1 ?_
  refine T_let (o + 7) br.2.2.2.2.2.2 ?_
  refine T_let (i + 1) (v_wid (by omega)) ?_
  refine T_if1 r7.1.1 ?_
  refine T_getX r7 ⟨by omega, by omega⟩ ?_
  rw [fr, fr]
  refine T_let (s0 (o + 8) (i + 1) - 1) (v_wid (by omega)) ?_
  refine T_if1 v_220.1 ?_
  refine T_useI (e_CMlen hfu h ⟨h0.1, by omega⟩ (by omega)) (fun v s1 hq => ?_)
  obtain ⟨rfl, cm⟩ := hq
  refine T_vI ?_
  exact T_ret ⟨rfl, cm⟩
/-- lines of o: c of them -/
def y_LS2 (o : Int) (s : z_M) (n : Int) (nx : Int → Int) (c : Nat) : Prop := s o 6 = c ∧ (c : Int) ≤ n ∧ y_LR nx (s (o + 8)) n c ∧ ∀ a : Int, 0 ≤ a → a < n → a < nx a ∧ nx a ≤ n
theorem y_LS2.at {o : Int} {s : z_M} {n : Int} {nx : Int → Int} {c : Nat} (h : y_LS2 o s n nx c) {i : Int} (p : 0 ≤ i) (q : i < c) : (0 ≤ s (o + 8) i ∧ s (o + 8) i < s (o + 8) (i + 1)) ∧ s (o + 8) (i + 1) ≤ n := by
  have w := h.2.2.1.SV h.2.2.2 p q
  exact ⟨⟨w.1, w.2.1⟩, w.2.2⟩
theorem y_LR.last {nx r : Int → Int} {n : Int} {c : Nat} (h : y_LR nx r n c) (hb : ∀ a : Int, 0 ≤ a → a < n → a < nx a ∧ nx a ≤ n) {i : Int} (p : 0 ≤ i) (q : i < c) : r (i + 1) = n ↔ i + 1 = c := by
  obtain ⟨k, rfl⟩ : ∃ k : Nat, i = k := ⟨i.toNat, by omega⟩
  constructor
  · intro e
    by_cases z : k + 1 = c
    · omega
    · have w := (h.SV hb (i := (k : Int) + 1) (by omega) (by omega))
      omega
  · intro e
    have z : k + 1 = c := by omega
    have w := h.1 (k + 1) (by omega)
    rw [show (((k + 1 : Nat)) : Int) = (k : Int) + 1 by omega] at w
    rw [w, z]
    exact h.2.2
theorem e_costsL {fu : Nat} (hfu : 8589934592 ≤ fu) {D : z_M} {E : Int → Int} {s0 : z_M} {o len n : Int} {nx : Int → Int} {c : Nat} {co : Int → Int → Int} {k : z_M → Int → z_O} {P : z_V → z_M → Prop} (ho : y_ob4 o) (hco : ∀ x y : Int, co x y = y_co (fun x y => y_LG D x y (s0 3 2)) len n x y) (cm0 : y_CM D E s0 s0) (en : s0 191 16 = n) (hl : 0 ≤ len ∧ len ≤ 10000) (ls : y_LS2 o s0 n nx c)
    (hk : ∀ s' : z_M, y_CM D E s0 s' → z_T (k s' (y_cs co (s0 (o + 8)) c)) P) :
    ∀ (m F : Nat) (s : z_M) (t i : Int) (j : Nat), j + m = c → m < F → i = (j : Int) → t = y_cs co (s0 (o + 8)) j → y_CM D E s0 s → z_T (fX1_costs_L5 fu o len F s t i k) P := by
  have br := v_br ho
  have oo : o = 240 ∨ o = 249 := ho
  have hn := cm0.1.1
  have l2 := cm0.2.2.1
  have d := cm0.1.2.2.2.2
  have Lb : ∀ j : Nat, j < c → 0 ≤ y_LG D (s0 (o + 8) j) (s0 (o + 8) ((j : Int) + 1) - 1) (s0 3 2) ∧ y_LG D (s0 (o + 8) j) (s0 (o + 8) ((j : Int) + 1) - 1) (s0 3 2) ≤ 6000000 := fun j q => by
    have w := ls.at (i := (j : Int)) (by omega) (by omega)
    exact y_LG_b d w.1.1 (by omega) hn.2 l2
  have cb := y_cs_b (co := co) (r := s0 (o + 8)) (c := c) (fun j q => by rw [hco]; exact y_co_b hl (Lb j q))
  intro m
  induction m with
  | zero =>
    intro F s t i j h1 hF hi ht cm
    obtain ⟨F, rfl⟩ : ∃ F2, F = F2 + 1 := ⟨F - 1, by omega⟩
    have e6 : s o 6 = c := (cm.2.2.2.2.2 _ _ (by omega) (by omega)).trans ls.1
    refine T_of (fX1_costs_L5.eq_2 ..) ?_
    refine T_if1 br.1 ?_
    refine T_let (c : Int) e6 ?_
    refine T_if1 (show (c : Int) ≤ i by omega) ?_
    rw [ht, show j = c by omega]
    exact hk s cm
  | succ m ih =>
    intro F s t i j h1 hF hi ht cm
    obtain ⟨F, rfl⟩ : ∃ F2, F = F2 + 1 := ⟨F - 1, by omega⟩
    have e6 : s o 6 = c := (cm.2.2.2.2.2 _ _ (by omega) (by omega)).trans ls.1
    have w := ls.at (i := i) (by omega) (by omega)
    have la := ls.2.2.1.last ls.2.2.2 (i := i) (by omega) (by omega)
    have lb := Lb j (by omega)
    have b1 := cb j (by omega)
    have b2 := cb (j + 1) (by omega)
    rw [y_cs_s] at b2
    have c200 : (c : Int) ≤ 200 := by have := ls.2.1; omega
    subst hi
    refine T_of (fX1_costs_L5.eq_2 ..) ?_
    refine T_if1 br.1 ?_
    refine T_let (c : Int) e6 ?_
    refine T_if0 (show ¬ (c : Int) ≤ (j : Int) by omega) ?_
    refine T_if1 br.1 ?_
    refine T_useI (e_longOfLine hfu ho cm (i := (j : Int)) ⟨by omega, by omega⟩ w.1 (by rw [en]; exact w.2) hn.2) (fun v s1 hq => ?_)
    obtain ⟨rfl, cm1⟩ := hq
    refine T_vI ?_
    have e61 : s1 o 6 = c := (cm1.2.2.2.2.2 _ _ (by omega) (by omega)).trans ls.1
    refine T_if1 br.1 ?_
    refine T_let (c : Int) e61 ?_
    refine T_let ((c : Int) - 1) (v_wid (by omega)) ?_
    have fin : ∀ z : Int, (if len < y_LG D (s0 (o + 8) j) (s0 (o + 8) ((j : Int) + 1) - 1) (s0 3 2) then 1000000 * (y_LG D (s0 (o + 8) j) (s0 (o + 8) ((j : Int) + 1) - 1) (s0 3 2) - len) else if z = 0 then (len - y_LG D (s0 (o + 8) j) (s0 (o + 8) ((j : Int) + 1) - 1) (s0 3 2)) * (len - y_LG D (s0 (o + 8) j) (s0 (o + 8) ((j : Int) + 1) - 1) (s0 3 2)) else 0) = co (s0 (o + 8) j) (s0 (o + 8) ((j : Int) + 1) - 1) → z_T (fX1_costs_J38 fu s1 o len (j : Int) t (y_LG D (s0 (o + 8) j) (s0 (o + 8) ((j : Int) + 1) - 1) (s0 3 2)) len z (fun w v2 v4 => fX1_costs_L5 fu o len F w v2 v4 k) k) P := fun z e => by
      refine T_of (fX1_costs_J38.eq_1 ..) ?_
      refine T_bL (T_of (e_costFor hl lb) (T_rL ?_))
      rw [e]
      refine T_let (t + co (s0 (o + 8) j) (s0 (o + 8) ((j : Int) + 1) - 1)) (v_wlid (by omega)) ?_
      refine T_let ((j : Int) + 1) (v_wid (by omega)) ?_
      refine ih F s1 _ _ (j + 1) (by omega) (by omega) (by omega) ?_ cm1
      rw [y_cs_s, ht]
    refine T_ite (fun q => fin 0 ?_) (fun q => fin 1 ?_)
    · rw [hco]
      unfold y_co
      rw [if_pos (show (0 : Int) = 0 from rfl), if_neg (show ¬ s0 (o + 8) ((j : Int) + 1) - 1 = n - 1 from fun z => by have := la.mp (by omega); omega)]
    · rw [hco]
      unfold y_co
      rw [if_neg (show ¬ (1 : Int) = 0 by decide), if_pos (show s0 (o + 8) ((j : Int) + 1) - 1 = n - 1 by have := la.mpr (by omega); omega)]
theorem e_costs {fu : Nat} (hfu : 8589934592 ≤ fu) {D : z_M} {E : Int → Int} {s : z_M} {o len n : Int} {nx : Int → Int} {c : Nat} (ho : y_ob4 o) (cm : y_CM D E s s) (en : s 191 16 = n) (hl : 0 ≤ len ∧ len ≤ 10000) (ls : y_LS2 o s n nx c) :
    z_T (fX1_costs fu s o len) (fun v s' => v = vL (y_cs (y_co (fun x y => y_LG D x y (s 3 2)) len n) (s (o + 8)) c) ∧ y_CM D E s s') := by
  have hn := cm.1.1
  have c1 := ls.2.1
  refine T_of (fX1_costs.eq_1 ..) ?_
  refine e_costsL hfu ho (co := y_co (fun x y => y_LG D x y (s 3 2)) len n) (fun _ _ => rfl) cm en hl ls (fun s' cm' => ?_) c fu s 0 0 0 (by omega) (by omega) rfl rfl cm
  exact T_ret ⟨rfl, cm'⟩
/-- costs, told by what they must be -/
def y_Rc2 (D : z_M) (ln T n len md x : Int) : Prop := ∃ (nx r : Int → Int) (c : Nat), y_NX (fun a b => y_LG D a b ln) (y_cl2 (y_me D T n) n) n len md nx ∧ y_LR nx r n c ∧ x = y_cs (y_co (fun a b => y_LG D a b ln) len n) r c ∧ 0 ≤ x ∧ x ≤ 1200000000000000
theorem y_Rc2.un {D : z_M} {ln T n len md x y : Int} (h : y_Rc2 D ln T n len md x) (h' : y_Rc2 D ln T n len md y) : x = y := by
  obtain ⟨nx, r, c, p, q, e, _⟩ := h
  obtain ⟨nx', r', c', p', q', e', _⟩ := h'
  obtain ⟨ec, er⟩ := p.cnt p' q q'
  subst ec
  rw [e, e']
  exact y_cs_cg c er (fun _ _ => rfl)
/-- go, and what it costs -/
theorem e_goC {fu : Nat} (hfu : 8589934592 ≤ fu) {D : z_M} {s : z_M} {len md : Int} {f : Int → z_M → z_O} {P : z_V → z_M → Prop} (cm : y_CM D (y_me D (s 3 7) (s 191 16)) s s) (hl : 0 ≤ len ∧ len ≤ 10000) (hk : ∀ (s' : z_M) (x : Int), y_CM D (y_me D (s' 3 7) (s' 191 16)) s' s' → (∀ a b : Int, a ≤ 219 → s' a b = s a b) → y_Rc2 D (s 3 2) (s 3 7) (s 191 16) len md x → z_T (f x s') P) :
    z_T (if z_ob 1 11 then z_let (z_gr 1 9) (fun x5 => if z_ob x5 1 then z_bN (fX1_go fu s x5 len md) (fun s6 => if z_ob 1 11 then z_let (z_gr 1 9) (fun x7 => if z_ob x7 1 then z_bL (fX1_costs fu s6 x7 len) f else none) else none) else none) else none) P := by
  have o9 : y_ob4 249 := Or.inr rfl
  have hn := cm.1.1
  refine T_if1 v_ob1 ?_
  refine T_let 249 v_g1_9 ?_
  refine T_if1 (v_br o9).1 ?_
  refine T_useN (e_go hfu (md := md) o9 cm rfl hl) (fun v s1 hq => ?_)
  obtain ⟨rfl, ⟨nx, c, p1, p2, p3, p4⟩, cm1, f1⟩ := hq
  refine T_vN ?_
  have fr : ∀ a b : Int, a ≤ 219 → s1 a b = s a b := fun a b q => f1 a b (by omega)
  refine T_if1 v_ob1 ?_
  refine T_let 249 v_g1_9 ?_
  refine T_if1 (v_br o9).1 ?_
  have ls : y_LS2 249 s1 (s 191 16) nx c := ⟨p3, p2, p4, p1.b⟩
  refine T_useL (e_costs hfu o9 cm1 (fr 191 16 (by decide)) hl ls) (fun v s2 hq => ?_)
  obtain ⟨rfl, cm2⟩ := hq
  refine T_vL ?_
  have fr2 : ∀ a b : Int, a ≤ 219 → s2 a b = s a b := fun a b q => (cm2.2.2.2.2.2 a b (by omega) (by omega)).trans (fr a b q)
  have d := cm.1.2.2.2.2
  have cb := y_cs_b (co := y_co (fun x y => y_LG D x y (s 3 2)) len (s 191 16)) (r := s1 (249 + 8)) (c := c) (fun j q => by
    have w := ls.at (i := (j : Int)) (by omega) (by omega)
    exact y_co_b hl (y_LG_b d w.1.1 (by omega) hn.2 cm.2.2.1)) c (Nat.le_refl c)
  rw [fr 3 2 (by decide)]
  refine hk s2 _ ?_ fr2 ⟨nx, _, c, p1, p4, rfl, cb.1, by omega⟩
  rw [fr2 3 7 (by decide), fr2 191 16 (by decide)]
  exact cm2.at
theorem v_g1_0 : z_gr 1 0 = 2 := by decide +kernel
theorem e_cbetter {fu : Nat} (hfu : 8589934592 ≤ fu) {s : z_M} (c : z_CI s) (h : y_V3 s) (hk : ∀ sr, y_RF s sr → y_OKc sr) : z_T (fX11_better fu s 1) (fun v _ => ∃ sr x y, y_RF s sr ∧ v = vL (x - y) ∧ y_Rc2 (y_dc sr) (sr 3 2) (sr 3 7) (sr 191 16) (sr 3 0) 0 x ∧ y_Rc2 (y_dc sr) (sr 3 2) (sr 3 7) (sr 191 16) (sr 3 0) 1 y) := by
  refine T_of (fX11_better.eq_1 ..) ?_
  refine T_if1 v_ob1 ?_
  refine T_useN (e_freshK hfu c h) (fun v sr hq => ?_)
  obtain ⟨rfl, rf, u3, _⟩ := hq
  refine T_vN ?_
  have ok := hk sr rf
  have len := ok.2.2.2.2.2.1
  refine T_if1 v_ob1 ?_
  refine T_let 2 v_g1_0 ?_
  refine T_if1 v_s2.1.1 ?_
  refine T_getX v_s2 (by decide) ?_
  refine e_goC hfu (ok.CM (u3.2 ok)) (show 0 ≤ sr 3 0 ∧ sr 3 0 ≤ 10000 by omega) (fun s1 x cm1 f1 hx => ?_)
  refine e_goC hfu cm1 (show 0 ≤ sr 3 0 ∧ sr 3 0 ≤ 10000 by omega) (fun s2 y cm2 f2 hy => ?_)
  rw [f1 3 2 (by decide), f1 3 7 (by decide), f1 191 16 (by decide)] at hy
  obtain ⟨_, _, _, _, _, _, bx⟩ := id hx
  obtain ⟨_, _, _, _, _, _, by'⟩ := id hy
  refine T_let (x - y) (v_wlid (by omega)) ?_
  exact T_ret ⟨sr, x, y, rf, rfl, hx, hy⟩
/-- the reference's -/
theorem em_costsL {fu : Nat} (hfu : 8589934592 ≤ fu) {D s0 : z_M} {len n : Int} {nx : Int → Int} {c : Nat} {co : Int → Int → Int} {k : z_M → Int → z_O} {P : z_V → z_M → Prop} (hco : ∀ x y : Int, co x y = y_co (fun x y => y_LG D x y (s0 312 2)) len n x y) (mk0 : y_Mk D s0 s0) (en : s0 309 20 = n) (e0 : s0 312 0 = len) (hl : 0 ≤ len ∧ len ≤ 10000) (ec : s0 309 44 = c) (cn : (c : Int) ≤ n) (lr : y_LR nx (s0 3438) n c) (hb : ∀ a : Int, 0 ≤ a → a < n → a < nx a ∧ nx a ≤ n)
    (hk : ∀ s' : z_M, y_Mk D s0 s' → z_T (k s' (y_cs co (s0 3438) c)) P) :
    ∀ (m F : Nat) (s : z_M) (t i : Int) (j : Nat), j + m = c → m < F → i = (j : Int) → t = y_cs co (s0 3438) j → y_Mk D s0 s → z_T (fX12_costs_L4 fu 309 F s t i k) P := by
  have hn := mk0.1.1.1
  have l2 := mk0.2.2.1.2
  have d := mk0.1.2.2.2
  have at' : ∀ j : Nat, j < c → (0 ≤ s0 3438 j ∧ s0 3438 j < s0 3438 ((j : Int) + 1)) ∧ s0 3438 ((j : Int) + 1) ≤ n := fun j q => by
    have w := lr.SV hb (i := (j : Int)) (by omega) (by omega)
    exact ⟨⟨w.1, w.2.1⟩, w.2.2⟩
  have cb := y_cs_b (co := co) (r := s0 3438) (c := c) (fun j q => by
    have w := at' j q
    rw [hco]; exact y_co_b hl (y_LG_b d w.1.1 (by omega) hn.2 l2))
  intro m
  induction m with
  | zero =>
    intro F s t i j h1 hF hi ht mk
    obtain ⟨F, rfl⟩ : ∃ F2, F = F2 + 1 := ⟨F - 1, by omega⟩
    refine T_of (fX12_costs_L4.eq_2 ..) ?_
    refine T_if1 v_ob309 ?_
    refine T_let (c : Int) ((mk.2.2.2 309 44 (by omega) (by omega) (by omega)).trans ec) ?_
    refine T_if1 (show (c : Int) ≤ i by omega) ?_
    rw [ht, show j = c by omega]
    exact hk s mk
  | succ m ih =>
    intro F s t i j h1 hF hi ht mk
    obtain ⟨F, rfl⟩ : ∃ F2, F = F2 + 1 := ⟨F - 1, by omega⟩
    have w := at' j (by omega)
    have b1 := cb j (by omega)
    have b2 := cb (j + 1) (by omega)
    rw [y_cs_s] at b2
    subst hi
    have r3 : ∀ b : Int, s 3438 b = s0 3438 b := fun b => mk.2.2.2 3438 b (by omega) (by omega) (by omega)
    refine T_of (fX12_costs_L4.eq_2 ..) ?_
    refine T_if1 v_ob309 ?_
    refine T_let (c : Int) ((mk.2.2.2 309 44 (by omega) (by omega) (by omega)).trans ec) ?_
    refine T_if0 (show ¬ (c : Int) ≤ (j : Int) by omega) ?_
    refine T_if1 v_ob309 ?_
    refine T_let 3438 v_gm45 ?_
    refine T_if1 (v_x3438 ⟨by omega, by omega⟩) ?_
    refine T_let (s0 3438 j) (r3 _) ?_
    refine T_if1 v_ob309 ?_
    refine T_let 3438 v_gm45 ?_
    refine T_let ((j : Int) + 1) (v_wid (by omega)) ?_
    refine T_if1 (v_x3438 ⟨by omega, by omega⟩) ?_
    refine T_let (s0 3438 ((j : Int) + 1)) (r3 _) ?_
    refine T_let (s0 3438 ((j : Int) + 1) - 1) (v_wid (by omega)) ?_
    refine T_if1 v_ob309 ?_
    refine T_let 312 v_gm9 ?_
    refine T_if1 (v_x312 (by decide)) ?_
    refine T_let len ((mk.e12 0).trans e0) ?_
    refine T_if1 v_ob309 ?_
    refine T_useL (em_cost hfu mk en ⟨w.1.1, by omega⟩ (by omega) hl) (fun v s1 hq => ?_)
    obtain ⟨rfl, mk1⟩ := hq
    refine T_vL ?_
    rw [← hco]
    refine T_let (t + co (s0 3438 j) (s0 3438 ((j : Int) + 1) - 1)) (v_wlid (by omega)) ?_
    refine T_let ((j : Int) + 1) (v_wid (by omega)) ?_
    refine ih F s1 _ _ (j + 1) (by omega) (by omega) (by omega) ?_ mk1
    rw [y_cs_s, ht]
theorem em_costsBy {fu : Nat} (hfu : 8589934592 ≤ fu) {D s : z_M} {md len : Int} (mk : y_Mk D s s) (e0 : s 312 0 = len) (hl : 0 ≤ len ∧ len ≤ 10000) :
    z_T (fX12_costsBy fu s 309 md) (fun v s' => ∃ x, v = vL x ∧ y_Rc2 D (s 312 2) (s 312 7) (s 309 20) len md x ∧ y_Mk D s' s' ∧ s' 309 20 = s 309 20 ∧ ∀ j : Int, s' 312 j = s 312 j) := by
  have hn := mk.1.1.1
  have l2 := mk.2.2.1.2
  have d := mk.1.2.2.2
  refine T_of (fX12_costsBy.eq_1 ..) ?_
  refine T_if1 v_ob309 ?_
  refine T_let 312 v_gm9 ?_
  refine T_if1 (v_x312 (by decide)) ?_
  refine T_let len e0 ?_
  refine T_if1 v_ob309 ?_
  refine T_useI (em_breaks hfu (md := md) mk rfl hl) (fun v s1 hq => ?_)
  obtain ⟨nx, c, rfl, p1, p2, p3, mk1, fl⟩ := hq
  refine T_vI ?_
  refine T_if1 v_ob309 ?_
  refine T_up ?_
  refine T_if1 ⟨v_ob309, bl0⟩ ?_
  refine T_up ?_
  have f3 : ∀ x y : Int, ¬ (x = 309 ∧ (y = 44 ∨ y = 43)) → z_up (z_up s1 309 44 (c : Int)) 309 43 0 x y = s1 x y := fun x y w => by
    rw [z_up_k2 (by omega), z_up_k2 (by omega)]
  have e44 : z_up (z_up s1 309 44 (c : Int)) 309 43 0 309 44 = (c : Int) := (z_up_j (by decide)).trans z_up_s
  generalize z_up (z_up s1 309 44 (c : Int)) 309 43 0 = s3 at f3 e44
  have e20 : s1 309 20 = s 309 20 := fl _ _ (by omega) (by omega) (by omega) (by omega)
  have e12 : ∀ j : Int, s1 312 j = s 312 j := fun j => fl _ _ (by omega) (by omega) (by omega) (by omega)
  have mk3 : y_Mk D s3 s3 := ⟨mk1.1.fr (f3 _ _ (by decide)) (fun x y p q => f3 x y (by omega)) (fun i _ => f3 _ _ (by omega)), mk1.2.1.imp (fun w => (f3 _ _ (by decide)).trans w) (fun w => w.fr mk1.1.1.1.2 (f3 _ _ (by decide)) (f3 _ _ (by decide)) (f3 _ _ (by decide)) (fun x b _ => f3 x b (by omega)) (fun b => ⟨f3 _ _ (by omega), f3 _ _ (by omega)⟩) (f3 _ _ (by decide)) (f3 _ _ (by decide))), by rw [f3 312 7 (by decide), f3 312 2 (by decide)]; exact mk1.2.2.1, fun _ _ _ _ _ => rfl⟩
  have r38 : s3 3438 = s1 3438 := funext fun b => f3 _ _ (by omega)
  refine T_if1 v_ob309 ?_
  refine T_bL (T_of (fX12_costs.eq_1 ..) ?_)
  have g12 : ∀ j : Int, s3 312 j = s 312 j := fun j => (f3 _ _ (by omega)).trans (e12 j)
  refine em_costsL hfu (D := D) (s0 := s3) (len := len) (n := s 309 20) (nx := nx) (c := c) (co := y_co (fun x y => y_LG D x y (s 312 2)) len (s 309 20)) (fun x y => by rw [g12 2]) mk3 ((f3 _ _ (by decide)).trans e20) ((g12 0).trans e0) hl e44 p2 (by rw [r38]; exact p3) p1.b (fun s' mk' => ?_) c fu s3 0 0 0 (by omega) (by omega) rfl rfl mk3
  refine T_rL ?_
  have lr3 : y_LR nx (s3 3438) (s 309 20) c := by rw [r38]; exact p3
  have cb := y_cs_b (co := y_co (fun x y => y_LG D x y (s 312 2)) len (s 309 20)) (r := s3 3438) (c := c) (fun j q => by
    have w := lr3.SV p1.b (i := (j : Int)) (by omega) (by omega)
    exact y_co_b hl (y_LG_b d w.1 (by omega) hn.2 l2)) c (Nat.le_refl c)
  exact T_ret ⟨_, rfl, ⟨nx, _, c, p1, lr3, rfl, cb.1, by omega⟩, mk'.at, (mk'.e20).trans ((f3 _ _ (by decide)).trans e20), fun j => (mk'.e12 j).trans (g12 j)⟩
theorem em_better {fu : Nat} (hfu : 8589934592 ≤ fu) {D s : z_M} (mk : y_Mk D s s) (hl : 0 ≤ s 312 0 ∧ s 312 0 ≤ 10000) : z_T (fX12_better fu s 309) (fun v _ => ∃ x y, v = vL (x - y) ∧ y_Rc2 D (s 312 2) (s 312 7) (s 309 20) (s 312 0) 0 x ∧ y_Rc2 D (s 312 2) (s 312 7) (s 309 20) (s 312 0) 1 y) := by
  refine T_of (fX12_better.eq_1 ..) ?_
  refine T_if1 v_ob309 ?_
  refine T_up ?_
  obtain ⟨_, kk⟩ := em_zero (s := s)
  generalize z_up s 309 0 0 = s1 at kk
  have mk1 := mk.z kk
  have g12 : ∀ j : Int, s1 312 j = s 312 j := fun j => kk _ _ (by omega)
  have g20 : s1 309 20 = s 309 20 := kk _ _ (by decide)
  refine T_if1 v_ob309 ?_
  refine T_useL (em_costsBy hfu (md := 0) mk1 (g12 0) hl) (fun v s2 hq => ?_)
  obtain ⟨x, rfl, hx, mk2, e2, k2⟩ := hq
  refine T_vL ?_
  refine T_if1 v_ob309 ?_
  refine T_useL (em_costsBy hfu (md := 1) mk2 ((k2 0).trans (g12 0)) hl) (fun v s3 hq => ?_)
  obtain ⟨y, rfl, hy, _, _, _⟩ := hq
  refine T_vL ?_
  rw [g12 2, g12 7, g20] at hx
  rw [k2 2, k2 7, e2, g12 2, g12 7, g20] at hy
  obtain ⟨_, _, _, _, _, _, bx⟩ := id hx
  obtain ⟨_, _, _, _, _, _, by'⟩ := id hy
  refine T_let (x - y) (v_wlid (by omega)) ?_
  exact T_ret ⟨x, y, rfl, hx, hy⟩
theorem q_better {g s : z_M} (b : y_BT g s) {md x y : Int} (h : y_Rc2 (y_dc g) (g 3 2) (g 3 7) (g 191 16) (g 3 0) md x) (h' : y_Rc2 (y_dm s) (s 312 2) (s 312 7) (s 309 20) (s 312 0) md y) : x = y := by
  rw [b.n, b.D, b.2.2.2.2.2 2, b.2.2.2.2.2 7, b.2.2.2.2.2 0] at h
  exact h.un h'
