/-! best breaking, lines: the reference's side; lines alike -/
theorem em_cost {fu : Nat} (hfu : 8589934592 ≤ fu) {D s0 s : z_M} (h : y_Mk D s0 s) {a b len n : Int} (en : s0 309 20 = n) (h0 : 0 ≤ a ∧ a ≤ b) (h1 : b < n) (hl : 0 ≤ len ∧ len ≤ 10000) : z_T (fX12_cost fu s 309 a b len) (fun v s' => v = vL (y_co (fun x y => y_LG D x y (s0 312 2)) len n a b) ∧ y_Mk D s0 s') := by
  have nn := h.1.1.1
  have e20 := h.e20
  have l2 := h.2.2.1.2
  rw [h.e12 2] at l2
  have d := h.1.2.2.2
  rw [e20, en] at d
  have lb := y_LG_b d h0.1 h1 (by omega) l2
  refine T_of (fX12_cost.eq_1 ..) ?_
  refine T_if1 v_ob309 ?_
  refine T_useI (em_MKlen hfu h h0 (by omega)) (fun v s1 hq => ?_)
  obtain ⟨rfl, mk1⟩ := hq
  refine T_vI ?_
  generalize eL : y_LG D a b (s0 312 2) = l at *
  have eco : y_co (fun x y => y_LG D x y (s0 312 2)) len n a b = if len < l then 1000000 * (l - len) else if b = n - 1 then 0 else (len - l) * (len - l) := by
    unfold y_co; rw [← eL]
  rw [eco]
  refine T_ite (fun q => ?_) (fun q => ?_)
  · rw [if_neg (show ¬ len < l by omega)]
    refine T_if1 v_ob309 ?_
    refine T_let n (mk1.e20.trans en) ?_
    refine T_let (n - 1) (v_wid (by omega)) ?_
    refine T_ite (fun q2 => ?_) (fun q2 => ?_)
    · rw [if_neg (show ¬ b = n - 1 from q2)]
      have m := Int.mul_le_mul (show len - l ≤ 10000 by omega) (show len - l ≤ 10000 by omega) (show 0 ≤ len - l by omega) (show (0 : Int) ≤ 10000 by decide)
      have m0 := Int.mul_nonneg (show 0 ≤ len - l by omega) (show 0 ≤ len - l by omega)
      refine T_let (len - l) (v_wid (by omega)) ?_
      refine T_let (len - l) (v_wid (by omega)) ?_
      refine T_let ((len - l) * (len - l)) (v_wlid (by omega)) ?_
      refine T_of (fX12_cost_J49.eq_1 ..) ?_
      exact T_ret ⟨rfl, mk1⟩
    · rw [if_pos (show b = n - 1 by omega)]
      refine T_of (fX12_cost_J49.eq_1 ..) ?_
      exact T_ret ⟨rfl, mk1⟩
  · rw [if_pos (show len < l by omega)]
    refine T_let (l - len) (v_wid (by omega)) ?_
    refine T_let (1000000 * (l - len)) (v_wlid (by omega)) ?_
    exact T_ret ⟨rfl, mk1⟩
/-- cells that laysBest writes on, besides LONG's -/
abbrev y_bw (x : Int) : Prop := x = 3439 ∨ x = 3440
/-- nothing else has changed -/
def y_FB (s0 s : z_M) : Prop := ∀ x y : Int, ¬ y_fw x y → ¬ (3224 ≤ x ∧ x ≤ 3233) → ¬ (x = 309 ∧ y = 35) → ¬ y_bw x → s x y = s0 x y
theorem em_lb32 {fu : Nat} (hfu : 8589934592 ≤ fu) {D s0 : z_M} {a len n : Int} {L : Int → Int → Int} {C B : Int → Int} (hL : ∀ x y : Int, L x y = y_LG D x y (s0 312 2)) (hC : ∀ u : Int, C u = y_cl2 (y_me D (s0 312 7) n) n u) (en : s0 309 20 = n) (ha : 0 ≤ a ∧ a < n) (hn : n ≤ 200) (hl : 0 ≤ len ∧ len ≤ 10000)
    (hB : ∀ b : Int, a < b → b ≤ n → 0 ≤ B b ∧ B b ≤ 6000000000000 * (n - b))
    {k : z_M → z_O} {P : z_V → z_M → Prop} (hk : ∀ (s' : z_M) (x e : Int), y_Mk D s' s' → y_BI1 (y_co L len n) C B a n x e → s' 3439 a = x → s' 3440 a = e → (∀ y : Int, y ≠ a → s' 3439 y = s0 3439 y ∧ s' 3440 y = s0 3440 y) → y_FB s0 s' → z_T (k s') P) :
    ∀ (m F : Nat) (s : z_M) (b : Int), (m : Int) = n - b → m < F → a ≤ b → y_Mk D s s → y_FB s0 s → (∀ y : Int, y ≠ a → s 3439 y = s0 3439 y ∧ s 3440 y = s0 3440 y) → (∀ y : Int, a < y → y ≤ n → s0 3439 y = B y) → ((s 3439 a = -1 ∧ y_BI0 C a b) ∨ ∃ e : Int, y_BI1 (y_co L len n) C B a b (s 3439 a) e ∧ s 3440 a = e) → z_T (fX12_laysBest_L32 fu 309 len a F s b k) P := by
  intro m
  induction m with
  | zero =>
    intro F s b h1 hF h3 mk f fr hB4 bi
    obtain ⟨F, rfl⟩ : ∃ F2, F = F2 + 1 := ⟨F - 1, by omega⟩
    have eb : b = n := by omega
    subst eb
    refine T_of (fX12_laysBest_L32.eq_2 ..) ?_
    refine T_if1 v_ob309 ?_
    refine T_let b ((f _ _ (by omega) (by omega) (by omega) (by omega)).trans en) ?_
    refine T_if1 (Int.le_refl _) ?_
    rcases bi with ⟨_, w⟩ | ⟨e, w, e2⟩
    · refine absurd ?_ (w (b - 1) (by omega) (by omega))
      rw [hC]; unfold y_cl2; rw [if_pos (Or.inl rfl)]
    · exact hk s _ e mk w rfl e2 fr f
  | succ m ih =>
    intro F s b h1 hF h3 mk f fr hB4 bi
    obtain ⟨F, rfl⟩ : ∃ F2, F = F2 + 1 := ⟨F - 1, by omega⟩
    have e1 : s 309 20 = n := (f _ _ (by omega) (by omega) (by omega) (by omega)).trans en
    have e2 : ∀ j, s 312 j = s0 312 j := fun j => f _ _ (by omega) (by omega) (by omega) (by omega)
    have l2 := mk.2.2.1.2
    have d := mk.1.2.2.2
    rw [e1] at d
    have a2 : 0 ≤ a ∧ a < 201 := by omega
    have skip : ∀ s1 : z_M, y_Mk D s1 s1 → y_FB s0 s1 → (∀ y : Int, s1 3439 y = s 3439 y ∧ s1 3440 y = s 3440 y) → ((s 3439 a = -1 ∧ y_BI0 C a (b + 1)) ∨ ∃ e : Int, y_BI1 (y_co L len n) C B a (b + 1) (s 3439 a) e ∧ s 3440 a = e) → z_T (fX12_laysBest_J122 fu s1 309 len a b (fun w v3 => fX12_laysBest_L32 fu 309 len a F w v3 k) k) P := fun s1 mk1 f1 r1 bi1 => by
      refine T_of (fX12_laysBest_J122.eq_1 ..) ?_
      refine T_let (b + 1) (v_wid (by omega)) ?_
      exact ih F s1 (b + 1) (by omega) (by omega) (by omega) mk1 f1 (fun y p => by rw [(r1 y).1, (r1 y).2]; exact fr y p) hB4 (by rw [(r1 a).1, (r1 a).2]; exact bi1)
    have take : ∀ s1 : z_M, y_Mk D s1 s1 → y_FB s0 s1 → (∀ y : Int, s1 3439 y = s 3439 y ∧ s1 3440 y = s 3440 y) → C b = 1 → (s 3439 a = -1 ∨ y_co L len n a b + B (b + 1) < s 3439 a) → z_T (fX12_laysBest_J107 fu s1 309 len a b (y_co L len n a b + B (b + 1)) (fun w v3 => fX12_laysBest_L32 fu 309 len a F w v3 k) k) P := fun s1 mk1 f1 r1 cb lt => by
      refine T_of (fX12_laysBest_J107.eq_1 ..) ?_
      refine T_if1 v_ob309 ?_
      refine T_let 3439 v_gm46 ?_
      refine T_if1 (v_x3439 a2) ?_
      refine T_up ?_
      refine T_if1 v_ob309 ?_
      refine T_let 3440 v_gm47 ?_
      refine T_if1 (v_x3440 ⟨ha.1, by omega⟩) ?_
      refine T_up ?_
      refine T_of (fX12_laysBest_J122.eq_1 ..) ?_
      refine T_let (b + 1) (v_wid (by omega)) ?_
      have gB : z_up (z_up s1 3439 a (y_co L len n a b + B (b + 1))) 3440 a b 3439 a = y_co L len n a b + B (b + 1) := (z_up_k (by decide)).trans z_up_s
      refine ih F _ (b + 1) (by omega) (by omega) (by omega) (mk1.self (fun x y p => by rw [z_up_k (by omega), z_up_k (by omega)])) (fun x y p q r t => by rw [z_up_k (by omega), z_up_k (by omega)]; exact f1 x y p q r t) (fun y p => ?_) hB4 (Or.inr ⟨b, ?_, z_up_s⟩)
      · rw [z_up_k (by decide), z_up_j p, z_up_j p, z_up_k (by decide), (r1 y).1, (r1 y).2]; exact fr y p
      · rw [gB]
        rcases bi with ⟨w1, w2⟩ | ⟨e, w1, w2⟩
        · exact w2.n h3 cb rfl
        · rcases lt with w | w
          · obtain ⟨⟨i1, i2, i3, i4⟩, _, _⟩ := w1
            have lb : 0 ≤ L a e ∧ L a e ≤ 6000000 := by rw [hL, ← e2]; exact y_LG_b d ha.1 (by omega) hn l2
            have cob := y_co_b (n := n) hl lb
            have be := hB (e + 1) (by omega) (by omega)
            omega
          · exact w1.l h3 cb rfl w
    have go : ∀ s1 : z_M, y_Mk D s1 s1 → y_FB s0 s1 → (∀ y : Int, s1 3439 y = s 3439 y ∧ s1 3440 y = s 3440 y) → C b = 1 → z_T (fX12_laysBest_J61 fu s1 309 len a b (fun w v3 => fX12_laysBest_L32 fu 309 len a F w v3 k) k) P := fun s1 mk1 f1 r1 cb => by
      have e11 : s1 309 20 = n := (f1 _ _ (by omega) (by omega) (by omega) (by omega)).trans en
      have e12 : s1 312 2 = s0 312 2 := f1 _ _ (by omega) (by omega) (by omega) (by omega)
      refine T_of (fX12_laysBest_J61.eq_1 ..) ?_
      refine T_if1 v_ob309 ?_
      refine T_useL (em_cost hfu mk1 e11 ⟨ha.1, h3⟩ (by omega) hl) (fun v s2 hq => ?_)
      obtain ⟨rfl, mk2⟩ := hq
      refine T_vL ?_
      have ec : y_co (fun x y => y_LG D x y (s1 312 2)) len n a b = y_co L len n a b := by
        unfold y_co
        rw [hL, e12]
      rw [ec]
      have f2 : y_FB s0 s2 := fun x y p q r t => (mk2.2.2.2 x y p q r).trans (f1 x y p q r t)
      have r2 : ∀ y : Int, s2 3439 y = s 3439 y ∧ s2 3440 y = s 3440 y := fun y => ⟨(mk2.2.2.2 _ _ (by omega) (by omega) (by omega)).trans (r1 y).1, (mk2.2.2.2 _ _ (by omega) (by omega) (by omega)).trans (r1 y).2⟩
      have lb : 0 ≤ L a b ∧ L a b ≤ 6000000 := by rw [hL, ← e2]; exact y_LG_b d ha.1 (by omega) hn l2
      have cob := y_co_b (n := n) hl lb
      have be := hB (b + 1) (by omega) (by omega)
      refine T_if1 v_ob309 ?_
      refine T_let 3439 v_gm46 ?_
      refine T_let (b + 1) (v_wid (by omega)) ?_
      refine T_if1 (v_x3439 ⟨by omega, by omega⟩) ?_
      refine T_let (B (b + 1)) (by rw [(r2 (b + 1)).1, (fr (b + 1) (by omega)).1]; exact hB4 (b + 1) (by omega) (by omega)) ?_
      refine T_let (y_co L len n a b + B (b + 1)) (v_wlid (by omega)) ?_
      refine T_if1 v_ob309 ?_
      refine T_let 3439 v_gm46 ?_
      refine T_if1 (v_x3439 a2) ?_
      refine T_let (s 3439 a) (r2 a).1 ?_
      refine T_leq (fun c ec => ?_)
      have cc := z_cmp_lt (x := s 3439 a) (y := -1)
      rw [ec] at cc
      refine T_ite (fun q => take s2 mk2.at f2 r2 cb (Or.inl (cc.2.2.mp q))) (fun q => ?_)
      refine T_if1 v_ob309 ?_
      refine T_let 3439 v_gm46 ?_
      refine T_if1 (v_x3439 a2) ?_
      refine T_let (s 3439 a) (r2 a).1 ?_
      refine T_leq (fun c2 ec2 => ?_)
      have cc2 := z_cmp_lt (x := y_co L len n a b + B (b + 1)) (y := s 3439 a)
      rw [ec2] at cc2
      refine T_ite (fun q2 => take s2 mk2.at f2 r2 cb (Or.inr (cc2.1.mp q2))) (fun q2 => ?_)
      refine skip s2 mk2.at f2 r2 ?_
      rcases bi with ⟨w1, w2⟩ | ⟨e, w1, w2⟩
      · exact absurd (cc.2.2.mpr w1) q
      · refine Or.inr ⟨e, w1.s (fun _ => ?_), w2⟩
        by_cases z : y_co L len n a b + B (b + 1) < s 3439 a
        · exact absurd (cc2.1.mpr z) q2
        · omega
    refine T_of (fX12_laysBest_L32.eq_2 ..) ?_
    refine T_if1 v_ob309 ?_
    refine T_let n e1 ?_
    refine T_if0 (show ¬ n ≤ b by omega) ?_
    refine T_if1 v_ob309 ?_
    refine T_let n e1 ?_
    refine T_let (n - 1) (v_wid (by omega)) ?_
    refine T_ite (fun q => go s mk f (fun _ => ⟨rfl, rfl⟩) (by rw [hC]; unfold y_cl2; rw [if_pos (show b = n - 1 ∨ y_me D (s0 312 7) n b = 1 by omega)])) (fun q => ?_)
    refine T_if1 v_ob309 ?_
    refine T_useI (em_MKend hfu mk ⟨by omega, by omega⟩) (fun v s1 hq => ?_)
    obtain ⟨rfl, mk1⟩ := hq
    refine T_vI ?_
    rw [e1, e2]
    have me01 := y_me_01 (D := D) (T := s0 312 7) (n := n) (u := b)
    have f1 : y_FB s0 s1 := fun x y p q r t => (mk1.2.2.2 x y p q r).trans (f x y p q r t)
    have r1 : ∀ y : Int, s1 3439 y = s 3439 y ∧ s1 3440 y = s 3440 y := fun y => ⟨mk1.2.2.2 _ _ (by omega) (by omega) (by omega), mk1.2.2.2 _ _ (by omega) (by omega) (by omega)⟩
    refine T_ite (fun q2 => go s1 mk1.at f1 r1 (by rw [hC]; unfold y_cl2; rw [if_pos (show b = n - 1 ∨ y_me D (s0 312 7) n b = 1 by omega)])) (fun q2 => ?_)
    have nc : C b ≠ 1 := by
      rw [hC]; unfold y_cl2; rw [if_neg (show ¬ (b = n - 1 ∨ y_me D (s0 312 7) n b = 1) by omega)]; decide
    refine skip s1 mk1.at f1 r1 ?_
    rcases bi with ⟨w1, w2⟩ | ⟨e, w1, w2⟩
    · exact Or.inl ⟨w1, w2.s nc⟩
    · exact Or.inr ⟨e, w1.s (fun y => absurd y nc), w2⟩
theorem em_lb17 {fu : Nat} (hfu : 8589934592 ≤ fu) {D s0 : z_M} {len n : Int} {L : Int → Int → Int} {C : Int → Int} (hL : ∀ x y : Int, L x y = y_LG D x y (s0 312 2)) (hC : ∀ u : Int, C u = y_cl2 (y_me D (s0 312 7) n) n u) (en : s0 309 20 = n) (hn : n ≤ 200) (hl : 0 ≤ len ∧ len ≤ 10000)
    {k : z_M → z_O} {P : z_V → z_M → Prop} (hk : ∀ (s' : z_M) (B En : Int → Int), y_Mk D s' s' → y_Bs (y_co L len n) C n 0 B En → (∀ y : Int, 0 ≤ y → y < n → s' 3440 y = En y) → y_FB s0 s' → z_T (k s') P) :
    ∀ (m F : Nat) (s : z_M) (a : Int) (B En : Int → Int), (m : Int) = a + 1 → m < F → a < n → y_Mk D s s → y_Bs (y_co L len n) C n (a + 1) B En → (∀ y : Int, a < y → y ≤ n → s 3439 y = B y) → (∀ y : Int, a < y → y < n → s 3440 y = En y) → (∀ b : Int, a < b → b ≤ n → 0 ≤ B b ∧ B b ≤ 6000000000000 * (n - b)) → y_FB s0 s → z_T (fX12_laysBest_L17 fu 309 len F s a k) P := by
  intro m
  induction m with
  | zero =>
    intro F s a B En h1 hF h2 mk bs cb ce hB f
    obtain ⟨F, rfl⟩ : ∃ F2, F = F2 + 1 := ⟨F - 1, by omega⟩
    have ea : a = -1 := by omega
    subst ea
    refine T_of (fX12_laysBest_L17.eq_2 ..) ?_
    refine T_if1 (by decide) ?_
    exact hk s B En mk bs (fun y p q => ce y (by omega) q) f
  | succ m ih =>
    intro F s a B En h1 hF h2 mk bs cb ce hB f
    obtain ⟨F, rfl⟩ : ∃ F2, F = F2 + 1 := ⟨F - 1, by omega⟩
    have a2 : 0 ≤ a ∧ a < 201 := by omega
    refine T_of (fX12_laysBest_L17.eq_2 ..) ?_
    refine T_if0 (show ¬ a < 0 by omega) ?_
    refine T_if1 v_ob309 ?_
    refine T_let 3439 v_gm46 ?_
    refine T_if1 (v_x3439 a2) ?_
    refine T_up ?_
    have fz : ∀ x y : Int, ¬ (x = 3439 ∧ y = a) → z_up s 3439 a (-1) x y = s x y := fun x y p => z_up_k2 p
    have gz : z_up s 3439 a (-1) 3439 a = -1 := z_up_s
    generalize z_up s 3439 a (-1) = sz at fz gz
    have mkz : y_Mk D sz sz := mk.self (fun x y p => fz x y (by omega))
    have fF : y_FB s0 sz := fun x y p q r t => (fz x y (fun w => t (Or.inl w.1))).trans (f x y p q r t)
    refine em_lb32 hfu (s0 := sz) (L := L) (C := C) (B := B) (n := n) (a := a) (fun x y => by rw [hL, fF 312 2 (by omega) (by omega) (by omega) (by omega)]) (fun u => by rw [hC, fF 312 7 (by omega) (by omega) (by omega) (by omega)]) ((fF _ _ (by omega) (by omega) (by omega) (by omega)).trans en) ⟨by omega, h2⟩ hn hl hB (fun s1 x e mk1 bi c1 c2 r1 f1 => ?_) (n - a).toNat fu sz a (by omega) (by omega) (Int.le_refl _) mkz (fun _ _ _ _ _ _ => rfl) (fun _ _ => ⟨rfl, rfl⟩) (fun y p q => by rw [fz 3439 y (by omega)]; exact cb y p q) (Or.inl ⟨gz, fun i p q => by omega⟩)
    have d := mk1.1.2.2.2
    have e11 : s1 309 20 = n := (f1 _ _ (by omega) (by omega) (by omega) (by omega)).trans ((fF _ _ (by omega) (by omega) (by omega) (by omega)).trans en)
    have e12 : s1 312 2 = s0 312 2 := (f1 _ _ (by omega) (by omega) (by omega) (by omega)).trans (fF _ _ (by omega) (by omega) (by omega) (by omega))
    rw [e11] at d
    have l2 := mk1.2.2.1.2
    have xb : 0 ≤ x ∧ x ≤ 6000000000000 * (n - a) := by
      obtain ⟨⟨i1, i2, i3, i4⟩, _, _⟩ := bi
      have lb : 0 ≤ L a e ∧ L a e ≤ 6000000 := by rw [hL, ← e12]; exact y_LG_b d (by omega) i2 hn l2
      have cob := y_co_b (n := n) hl lb
      have be := hB (e + 1) (by omega) (by omega)
      omega
    refine T_let (a - 1) (by rw [v_wid (by omega)]; omega) ?_
    refine ih F s1 (a - 1) (fun y => if y = a then x else B y) (fun y => if y = a then e else En y) (by omega) (by omega) (by omega) mk1 ?_ (fun y p q => ?_) (fun y p q => ?_) (fun b p q => ?_) (fun x y p q r t => (f1 x y p q r t).trans (fF x y p q r t))
    · rw [show a - 1 + 1 = a by omega]
      exact bs.mk h2 bi (if_pos rfl) (if_pos rfl) (fun y p => if_neg (by omega)) (fun y p => if_neg (by omega))
    · show s1 3439 y = if y = a then x else B y
      by_cases z : y = a
      · rw [if_pos z, z]; exact c1
      · rw [if_neg z, (r1 y z).1, fz 3439 y (by omega)]
        exact cb y (by omega) q
    · show s1 3440 y = if y = a then e else En y
      by_cases z : y = a
      · rw [if_pos z, z]; exact c2
      · rw [if_neg z, (r1 y z).2, fz 3440 y (by omega)]
        exact ce y (by omega) q
    · show 0 ≤ (if b = a then x else B b) ∧ (if b = a then x else B b) ≤ 6000000000000 * (n - b)
      by_cases z : b = a
      · rw [if_pos z, z]; exact xb
      · rw [if_neg z]; exact hB b (by omega) q
theorem em_laysBest {fu : Nat} (hfu : 8589934592 ≤ fu) {D s : z_M} {len n : Int} (mk : y_Mk D s s) (en : s 309 20 = n) (hl : 0 ≤ len ∧ len ≤ 10000) :
    z_T (fX12_laysBest fu s 309 len) (fun v s' => v = vN ∧ (∃ B En : Int → Int, y_Bs (y_co (fun x y => y_LG D x y (s 312 2)) len n) (y_cl2 (y_me D (s 312 7) n) n) n 0 B En ∧ ∀ y : Int, 0 ≤ y → y < n → s' 3440 y = En y) ∧ y_Mk D s' s' ∧ y_FB s s') := by
  have nn := mk.1.1.1
  refine T_of (fX12_laysBest.eq_1 ..) ?_
  refine T_if1 v_ob309 ?_
  refine T_let 3439 v_gm46 ?_
  refine T_if1 v_ob309 ?_
  refine T_let n en ?_
  refine T_if1 (v_x3439 ⟨by omega, by omega⟩) ?_
  refine T_up ?_
  refine T_if1 v_ob309 ?_
  refine T_let n ((z_up_k (by decide)).trans en) ?_
  refine T_let (n - 1) (v_wid (by omega)) ?_
  have f0 : ∀ x y : Int, ¬ (x = 3439 ∧ y = n) → z_up s 3439 n 0 x y = s x y := fun x y p => z_up_k2 p
  have g0 : z_up s 3439 n 0 3439 n = 0 := z_up_s
  generalize z_up s 3439 n 0 = s1 at f0 g0
  have mk1 : y_Mk D s1 s1 := mk.self (fun x y p => f0 x y (by omega))
  refine em_lb17 hfu (D := D) (s0 := s1) (L := fun x y => y_LG D x y (s 312 2)) (C := y_cl2 (y_me D (s 312 7) n) n) (n := n) (fun x y => by rw [f0 312 2 (by omega)]) (fun u => by rw [f0 312 7 (by omega)]) ((f0 _ _ (by omega)).trans en) (by omega) hl (fun s2 B En mk2 bs rows f => ?_) n.toNat fu s1 (n - 1) (fun _ => 0) (fun _ => 0) (by omega) (by omega) (by omega) mk1 ⟨rfl, fun a p q => by omega⟩ (fun y p q => by rw [show y = n by omega]; exact g0) (fun y p q => by omega) (fun b p q => by show 0 ≤ (0 : Int) ∧ (0 : Int) ≤ 6000000000000 * (n - b); omega) (fun _ _ _ _ _ _ => rfl)
  exact T_ret ⟨rfl, ⟨B, En, bs, rows⟩, mk2, fun x y p q r t => (f x y p q r t).trans (f0 x y (fun w => t (Or.inl w.1)))⟩
/-- nothing else than what breaking needs has changed -/
def y_FL (s0 s : z_M) : Prop := ∀ x y : Int, ¬ y_fw x y → ¬ (3224 ≤ x ∧ x ≤ 3233) → ¬ (x = 309 ∧ y = 35) → ¬ (3438 ≤ x ∧ x ≤ 3440) → s x y = s0 x y
theorem em_breaks {fu : Nat} (hfu : 8589934592 ≤ fu) {D s : z_M} {len md n : Int} (mk : y_Mk D s s) (en : s 309 20 = n) (hl : 0 ≤ len ∧ len ≤ 10000) :
    z_T (fX12_breaks fu s 309 len md) (fun v s' => ∃ (nx : Int → Int) (c : Nat), v = vI c ∧ y_NX (fun x y => y_LG D x y (s 312 2)) (y_cl2 (y_me D (s 312 7) n) n) n len md nx ∧ (c : Int) ≤ n ∧ y_LR nx (s' 3438) n c ∧ y_Mk D s' s' ∧ y_FL s s') := by
  have nn := mk.1.1.1
  have fin : ∀ (s1 s2 : z_M) (nx : Int → Int) (c : Nat), y_FB s s1 → y_NX (fun x y => y_LG D x y (s 312 2)) (y_cl2 (y_me D (s 312 7) n) n) n len md nx → y_Mk D s2 s2 → (c : Int) ≤ n → (∀ j : Nat, j < c → s2 3438 j = y_it nx j ∧ y_it nx j < n) → y_it nx c = n → (∀ x y : Int, ¬ y_fw x y → ¬ (3224 ≤ x ∧ x ≤ 3233) → ¬ (x = 309 ∧ y = 35) → x ≠ 3438 → s2 x y = s1 x y) →
      z_T (if z_ob 309 12 then z_let (z_gr 309 45) (fun x12 => if z_ob 309 12 then z_let (s2 309 20) (fun x13 => if z_ix x12 100 (c : Int) then z_let (z_up s2 x12 (c : Int) x13) (fun s14 => some (vI (c : Int), s14)) else none) else none) else none) (fun v s' => ∃ (nx : Int → Int) (c : Nat), v = vI c ∧ y_NX (fun x y => y_LG D x y (s 312 2)) (y_cl2 (y_me D (s 312 7) n) n) n len md nx ∧ (c : Int) ≤ n ∧ y_LR nx (s' 3438) n c ∧ y_Mk D s' s' ∧ y_FL s s') := fun s1 s2 nx c fb nxd mk2 hc g ei f2 => by
    have e20 : s2 309 20 = n := (f2 _ _ (by omega) (by omega) (by omega) (by omega)).trans ((fb _ _ (by omega) (by omega) (by omega) (by omega)).trans en)
    refine T_if1 v_ob309 ?_
    refine T_let 3438 v_gm45 ?_
    refine T_if1 v_ob309 ?_
    refine T_let n e20 ?_
    refine T_if1 (v_x3438 ⟨by omega, by omega⟩) ?_
    refine T_up ?_
    refine T_ret ⟨nx, c, rfl, nxd, hc, ⟨fun j p => ?_, fun j p => (g j p).2, ei⟩, mk2.self (fun x y p => z_up_k (by omega)), fun x y p q r t => ?_⟩
    · by_cases z : j = c
      · subst z
        rw [z_up_s, ei]
      · rw [z_up_j (by omega)]
        exact (g j (by omega)).1
    · rw [z_up_k (by omega), f2 x y p q r (by omega)]
      exact fb x y p q r (by omega)
  refine T_of (fX12_breaks.eq_1 ..) ?_
  refine T_ite (fun q => ?_) (fun q => ?_)
  · have nxd : y_NX (fun x y => y_LG D x y (s 312 2)) (y_cl2 (y_me D (s 312 7) n) n) n len md (fun a => y_cm (fun x y => y_LG D x y (s 312 2)) (y_cl2 (y_me D (s 312 7) n) n) n len a + 1) := Or.inl ⟨q, fun _ => rfl⟩
    exact em_brJ hfu mk en (Or.inl ⟨q, fun _ => rfl⟩) nxd.b (fun s2 c mk2 hc g ei f2 => fin s s2 _ c (fun _ _ _ _ _ _ => rfl) nxd mk2 hc g ei f2)
  · have m1 : md = 1 := by omega
    refine T_if1 v_ob309 ?_
    refine T_useN (em_laysBest (n := n) hfu mk en hl) (fun v s1 hq => ?_)
    obtain ⟨rfl, ⟨B, En, bs, rows⟩, mk1, f1⟩ := hq
    refine T_vN ?_
    have nxd : y_NX (fun x y => y_LG D x y (s 312 2)) (y_cl2 (y_me D (s 312 7) n) n) n len md (fun a => En a + 1) := Or.inr ⟨m1, B, En, bs, fun _ => rfl⟩
    exact em_brJ (nx := fun a => En a + 1) hfu mk1 ((f1 _ _ (by omega) (by omega) (by omega) (by omega)).trans en) (Or.inr ⟨m1, fun a p r => by rw [rows a p r]; show En a = En a + 1 - 1; omega⟩) nxd.b (fun s2 c mk2 hc g ei f2 => fin s1 s2 _ c f1 nxd mk2 hc g ei f2)
