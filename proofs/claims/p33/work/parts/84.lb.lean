/-! best breaking: all starts, both sides -/
/-- the class's rows from a on -/
def y_Cb2 (D s : z_M) (o n a : Int) (B En : Int → Int) : Prop := (∀ y : Int, a < y → y ≤ n → s (o + 4) y = B y) ∧ ∀ y : Int, a < y → y < n → s (o + 2) y = En y - y + 1
theorem e_cb25 {fu : Nat} (hfu : 8589934592 ≤ fu) {D : z_M} {E : Int → Int} {s0 : z_M} {o len n : Int} {L : Int → Int → Int} {C : Int → Int} (ho : y_ob4 o) (hL : ∀ x y : Int, L x y = y_LG D x y (s0 3 2)) (hC : ∀ u : Int, C u = y_cl2 E n u) (en : s0 191 16 = n) (hn : n ≤ 200) (hl : 0 ≤ len ∧ len ≤ 10000) (h32 : 0 ≤ s0 3 2 ∧ s0 3 2 ≤ 6)
    {k : z_M → z_O} {P : z_V → z_M → Prop} (hk : ∀ (s' : z_M) (B En : Int → Int), y_CM D E s' s' → y_Bs (y_co L len n) C n 0 B En → (∀ y : Int, 0 ≤ y → y < n → s' (o + 2) y = En y - y + 1) → (∀ x y : Int, ¬ y_cwo o x y → s' x y = s0 x y) → z_T (k s') P) :
    ∀ (m F : Nat) (s : z_M) (a : Int) (B En : Int → Int), (m : Int) = a + 1 → m < F → a < n → y_CM D E s s → y_Bs (y_co L len n) C n (a + 1) B En → y_Cb2 D s o n a B En → (∀ b : Int, a < b → b ≤ n → 0 ≤ B b ∧ B b ≤ 6000000000000 * (n - b)) → (∀ x y : Int, ¬ y_cwo o x y → s x y = s0 x y) → z_T (fX1_chooseBest_L25 fu o len F s a k) P := by
  have br := v_br ho
  have oo : o = 240 ∨ o = 249 := ho
  intro m
  induction m with
  | zero =>
    intro F s a B En h1 hF h2 cm bs cb hB f
    obtain ⟨F, rfl⟩ : ∃ F2, F = F2 + 1 := ⟨F - 1, by omega⟩
    have ea : a = -1 := by omega
    subst ea
    refine T_of (fX1_chooseBest_L25.eq_2 ..) ?_
    refine T_if1 (by decide) ?_
    exact hk s B En cm bs (fun y p q => cb.2 y (by omega) q) f
  | succ m ih =>
    intro F s a B En h1 hF h2 cm bs cb hB f
    obtain ⟨F, rfl⟩ : ∃ F2, F = F2 + 1 := ⟨F - 1, by omega⟩
    have e1 : s 191 16 = n := (f _ _ (by omega)).trans en
    have e32 : s 3 2 = s0 3 2 := f _ _ (by omega)
    refine T_of (fX1_chooseBest_L25.eq_2 ..) ?_
    refine T_if0 (show ¬ a < 0 by omega) ?_
    refine e_cbL hfu (D := D) (E := E) (s0 := s) (L := L) (C := C) (B := B) (n := n) (a := a) ho (fun x y => by rw [hL, e32]) hC e1 ⟨by omega, h2⟩ hn hl hB (by rw [e32]; exact h32) (fun s1 x e cm1 bi o2 f1 => ?_) (n - a).toNat fu s 9223372036854775807 a (by omega) (by omega) (Int.le_refl _) cm (fun _ _ _ _ _ => rfl) (fun y p q => cb.1 y p q) (Or.inl ⟨rfl, fun i p q => by omega⟩)
    have d := cm1.1.2.2.2.2
    have e11 : s1 191 16 = n := (f1 _ _ (by omega) (by omega) (by omega)).trans e1
    rw [e11] at d
    have xb : 0 ≤ x ∧ x ≤ 6000000000000 * (n - a) := by
      obtain ⟨⟨i1, i2, i3, i4⟩, _, _⟩ := bi
      have lb : 0 ≤ L a e ∧ L a e ≤ 6000000 := by rw [hL]; exact y_LG_b d (by omega) i2 hn h32
      have cob := y_co_b (n := n) hl lb
      have be := hB (e + 1) (by omega) (by omega)
      omega
    refine T_of (fX1_chooseBest_J163.eq_1 ..) ?_
    refine T_if1 br.1 ?_
    refine T_let (o + 3) br.2.2.2.2.1 ?_
    refine T_if1 (v_br3 ho).1.1 ?_
    refine T_putL (v_br3 ho) ⟨by omega, by omega⟩ ?_
    refine T_let (a - 1) (by rw [v_wid (by omega)]; omega) ?_
    refine ih F _ (a - 1) (fun y => if y = a then x else B y) (fun y => if y = a then e else En y) (by omega) (by omega) (by omega) (cm1.self (fun x y p => z_up_k (by omega))) ?_ ⟨fun y p q => ?_, fun y p q => ?_⟩ (fun b p q => ?_) (fun x y p => ?_)
    · rw [show a - 1 + 1 = a by omega]
      exact bs.mk h2 bi (if_pos rfl) (if_pos rfl) (fun y p => if_neg (by omega)) (fun y p => if_neg (by omega))
    · show z_up s1 (o + 4) a x (o + 4) y = if y = a then x else B y
      by_cases z : y = a
      · rw [if_pos z, z, z_up_s]
      · rw [if_neg z, z_up_j z, f1 (o + 4) y (by omega) (by omega) (by omega)]
        exact cb.1 y (by omega) q
    · show z_up s1 (o + 4) a x (o + 2) y = (if y = a then e else En y) - y + 1
      by_cases z : y = a
      · rw [if_pos z, z, z_up_k (by omega)]; exact o2
      · rw [if_neg z, z_up_k (by omega), f1 (o + 2) y (by omega) (by omega) (by omega)]
        exact cb.2 y (by omega) q
    · show 0 ≤ (if b = a then x else B b) ∧ (if b = a then x else B b) ≤ 6000000000000 * (n - b)
      by_cases z : b = a
      · rw [if_pos z, z]; exact xb
      · rw [if_neg z]; exact hB b (by omega) q
    · rw [z_up_k (by omega), f1 x y (by omega) (by omega) (by omega)]
      exact f x y p
theorem e_chooseBest {fu : Nat} (hfu : 8589934592 ≤ fu) {D : z_M} {E : Int → Int} {s : z_M} {o len n : Int} (ho : y_ob4 o) (cm : y_CM D E s s) (en : s 191 16 = n) (hl : 0 ≤ len ∧ len ≤ 10000) :
    z_T (fX1_chooseBest fu s o len) (fun v s' => v = vN ∧ (∃ B En : Int → Int, y_Bs (y_co (fun x y => y_LG D x y (s 3 2)) len n) (y_cl2 E n) n 0 B En ∧ ∀ y : Int, 0 ≤ y → y < n → s' (o + 2) y = En y - y + 1) ∧ y_CM D E s' s' ∧ ∀ x y : Int, ¬ y_cwo o x y → s' x y = s x y) := by
  have br := v_br ho
  have oo : o = 240 ∨ o = 249 := ho
  have nn := cm.1.1
  refine T_of (fX1_chooseBest.eq_1 ..) ?_
  refine T_if1 br.1 ?_
  refine T_let (o + 3) br.2.2.2.2.1 ?_
  refine T_if1 br.1 ?_
  refine T_let 191 br.2.1 ?_
  refine T_if1 v_ob191 ?_
  refine T_let n en ?_
  refine T_if1 (v_br3 ho).1.1 ?_
  refine T_putL (v_br3 ho) ⟨by omega, by omega⟩ ?_
  refine T_if1 br.1 ?_
  refine T_let 191 br.2.1 ?_
  refine T_if1 v_ob191 ?_
  refine T_let n ((z_up_k (by omega)).trans en) ?_
  refine T_let (n - 1) (v_wid (by omega)) ?_
  have f0 : ∀ x y : Int, ¬ (x = o + 4 ∧ y = n) → z_up s (o + 4) n 0 x y = s x y := fun x y p => z_up_k2 p
  have g0 : z_up s (o + 4) n 0 (o + 4) n = 0 := z_up_s
  generalize z_up s (o + 4) n 0 = s1 at f0 g0
  have cm1 : y_CM D E s1 s1 := cm.self (fun x y p => f0 x y (by omega))
  refine e_cb25 hfu (D := D) (E := E) (s0 := s1) (L := fun x y => y_LG D x y (s 3 2)) (C := y_cl2 E n) (n := n) ho (fun x y => by rw [f0 3 2 (by omega)]) (fun _ => rfl) ((f0 _ _ (by omega)).trans en) (by omega) hl cm1.2.2.1 (fun s2 B En cm2 bs rows f => ?_) n.toNat fu s1 (n - 1) (fun _ => 0) (fun _ => 0) (by omega) (by omega) (by omega) cm1 ⟨rfl, fun a p q => by omega⟩ ⟨fun y p q => by rw [show y = n by omega]; exact g0, fun y p q => by omega⟩ (fun b p q => by show 0 ≤ (0 : Int) ∧ (0 : Int) ≤ 6000000000000 * (n - b); omega) (fun _ _ _ => rfl)
  exact T_ret ⟨rfl, ⟨B, En, bs, rows⟩, cm2, fun x y p => (f x y p).trans (f0 x y (fun w => p (Or.inr (Or.inr (Or.inr w.1)))))⟩
/-- what follows a unit, by the mode -/
def y_NX (L : Int → Int → Int) (C : Int → Int) (n len md : Int) (nx : Int → Int) : Prop := (md ≠ 1 ∧ ∀ a : Int, nx a = y_cm L C n len a + 1) ∨ (md = 1 ∧ ∃ B En : Int → Int, y_Bs (y_co L len n) C n 0 B En ∧ ∀ a : Int, nx a = En a + 1)
theorem y_NX.b {L : Int → Int → Int} {C nx : Int → Int} {n len md : Int} (h : y_NX L C n len md nx) : ∀ a : Int, 0 ≤ a → a < n → a < nx a ∧ nx a ≤ n := fun a p q => by
  rcases h with ⟨_, e⟩ | ⟨_, B, En, bs, e⟩
  · have := y_cm_b (L := L) (C := C) (len := len) p q
    rw [e]; omega
  · have := (bs.2 a p q).1
    rw [e]; omega
theorem y_NX.un {L : Int → Int → Int} {C nx nx' : Int → Int} {n len md : Int} (h : y_NX L C n len md nx) (h' : y_NX L C n len md nx') : ∀ a : Int, 0 ≤ a → a < n → nx a = nx' a := fun a p q => by
  rcases h with ⟨m, e⟩ | ⟨m, B, En, bs, e⟩
  · rcases h' with ⟨_, e'⟩ | ⟨m', _⟩
    · rw [e, e']
    · exact absurd m' m
  · rcases h' with ⟨m', _⟩ | ⟨_, B', En', bs', e'⟩
    · exact absurd m m'
    · rw [e, e', (bs.un bs' (n - a).toNat a (by omega) p (by omega)).2 q]
/-- cells that go writes on -/
abbrev y_gow (o x b : Int) : Prop := y_gwo o x b ∨ x = o + 2 ∨ x = o + 4
/-- the class's lines, by a length, a mode -/
theorem e_go {fu : Nat} (hfu : 8589934592 ≤ fu) {D : z_M} {E : Int → Int} {s : z_M} {o len md n : Int} (ho : y_ob4 o) (cm : y_CM D E s s) (en : s 191 16 = n) (hl : 0 ≤ len ∧ len ≤ 10000) :
    z_T (fX1_go fu s o len md) (fun v s' => v = vN ∧ (∃ (nx : Int → Int) (c : Nat), y_NX (fun x y => y_LG D x y (s 3 2)) (y_cl2 E n) n len md nx ∧ (c : Int) ≤ n ∧ s' o 6 = c ∧ y_LR nx (s' (o + 8)) n c) ∧ y_CM D E s' s' ∧ ∀ x y : Int, ¬ y_gow o x y → s' x y = s x y) := by
  have br := v_br ho
  have oo : o = 240 ∨ o = 249 := ho
  refine T_of (fX1_go.eq_1 ..) ?_
  refine T_ite (fun q => ?_) (fun q => ?_)
  · have nxd : y_NX (fun x y => y_LG D x y (s 3 2)) (y_cl2 E n) n len md (fun a => y_cm (fun x y => y_LG D x y (s 3 2)) (y_cl2 E n) n len a + 1) := Or.inl ⟨q, fun _ => rfl⟩
    refine T_mono (e_goJ hfu ho cm en (by omega) (Or.inl ⟨q, fun _ => rfl⟩) nxd.b) (fun v s' hq => ?_)
    obtain ⟨rfl, ⟨c, c1, c2, c3⟩, cm', f⟩ := hq
    exact ⟨rfl, ⟨_, c, nxd, c1, c2, c3⟩, cm', fun x y p => f x y (fun w => p (Or.inl w))⟩
  · have m1 : md = 1 := by omega
    refine T_if1 br.1 ?_
    refine T_useN (e_chooseBest (n := n) hfu ho cm en hl) (fun v s1 hq => ?_)
    obtain ⟨rfl, ⟨B, En, bs, rows⟩, cm1, f1⟩ := hq
    refine T_vN ?_
    have nxd : y_NX (fun x y => y_LG D x y (s 3 2)) (y_cl2 E n) n len md (fun a => En a + 1) := Or.inr ⟨m1, B, En, bs, fun _ => rfl⟩
    refine T_mono (e_goJ (nx := fun a => En a + 1) hfu ho cm1 ((f1 _ _ (by omega)).trans en) (by omega) (Or.inr ⟨m1, fun a p r => ?_⟩) nxd.b) (fun v s' hq => ?_)
    · rw [rows a p r]
      show En a - a + 1 = En a + 1 - a
      omega
    · obtain ⟨rfl, ⟨c, c1, c2, c3⟩, cm', f⟩ := hq
      exact ⟨rfl, ⟨_, c, nxd, c1, c2, c3⟩, cm', fun x y p => (f x y (fun w => p (Or.inl w))).trans (f1 x y (fun w => by
        rcases w with w | w | w | w
        · exact p (Or.inl (Or.inl w))
        · exact p (Or.inl (Or.inr (Or.inl w)))
        · exact p (Or.inr (Or.inl w))
        · exact p (Or.inr (Or.inr w))))⟩
