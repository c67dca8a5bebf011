/-! LONG of a line as the reference lays it out -/
/-- all rows of a line that was laid out -/
def y_LN (D s : z_M) (a b ln : Int) : Prop := (∀ v : Int, a ≤ v → v ≤ b → (s 3224 v = y_w D a b v ∧ s 3225 v = y_sA D a b v ∧ s 3226 v = y_sB D a b v) ∧ s 3227 v = y_pA D a b ln v ∧ s 3228 v = y_pB D a b ln v ∧ s 3229 v = (if y_sa D a v then y_e D a b v - v + 1 else 0) ∧ s 3230 v = y_wa D a b v ∧ s 3231 v = y_wb D a b v ∧ (y_sa D a v → s 3232 v = y_ov D a b v ∧ s 3233 v = y_sum (D 1) v (y_e D a b v - v + 1).toNat)) ∧ s 309 35 = y_hg D a b
theorem y_wab_b {D : z_M} {n a b u : Int} (d : y_DF D n) (hA : 0 ≤ a) (hB : b < n) (hn : n ≤ 200) (h : a ≤ u ∧ u ≤ b) : (0 ≤ y_wa D a b u ∧ y_wa D a b u ≤ 9000) ∧ 0 ≤ y_wb D a b u ∧ y_wb D a b u ≤ 9000 := by
  have key : ∀ m : Nat, ∀ i : Int, (m : Int) = i - a → i ≤ b → D 0 i = 7 → ∃ f : Int, y_Bl D a b f (y_e D a b f) ∧ f ≤ i ∧ i ≤ y_e D a b f := by
    intro m
    induction m with
    | zero =>
      intro i h1 h2 k7
      have e : i = a := by omega
      subst e
      have bl := y_Bl.of (D := D) (a := i) (b := b) (Int.le_refl _) h2 ⟨k7, fun c => by have := c.1; omega⟩
      exact ⟨i, bl, Int.le_refl _, bl.2.1⟩
    | succ m ih =>
      intro i h1 h2 k7
      by_cases c : y_ct D a i
      · obtain ⟨f, bl, g1, g2⟩ := ih (i - 1) (by omega) (by omega) c.2.2.1
        refine ⟨f, bl, by omega, ?_⟩
        by_cases z : i ≤ y_e D a b f
        · exact z
        · have e : y_e D a b f = i - 1 := by omega
          exact absurd (show y_e D a b f < b ∧ y_ct D a (y_e D a b f + 1) by rw [e, show i - 1 + 1 = i by omega]; exact ⟨by omega, c⟩) bl.2.2.2.2.2
      · have bl := y_Bl.of (D := D) (a := a) (b := b) (by omega) h2 ⟨k7, c⟩
        exact ⟨i, bl, Int.le_refl _, bl.2.1⟩
  by_cases k7 : D 0 u = 7
  · obtain ⟨f, bl, g1, g2⟩ := key (u - a).toNat u (by omega) h.2 k7
    have bo := y_BO_b d bl hA hB hn
    rw [bl.wa g1 g2, bl.wb g1 g2]
    constructor
    · split <;> omega
    · split <;> omega
  · rw [y_wa_n k7, y_wb_n k7]; decide
theorem y_pAB_r {D : z_M} {n a b ln u : Int} (d : y_DF D n) (hA : 0 ≤ a) (hB : b < n) (hn : n ≤ 200) (h : a ≤ u ∧ u ≤ b) (hl : 0 ≤ ln ∧ ln ≤ 6) : (0 ≤ y_pA D a b ln u ∧ y_pA D a b ln u ≤ 9000) ∧ 0 ≤ y_pB D a b ln u ∧ y_pB D a b ln u ≤ 9000 := by
  have w := y_wab_b d hA hB hn h
  have m1 : 0 ≤ y_mA D a b ln u := by
    unfold y_mA
    by_cases q : u = a
    · rw [if_pos q]; exact Int.le_refl 0
    · have bb := y_lA_b (a := a) (b := b) (v := u - 1) d (by omega) hl
      rw [if_neg q]
      split <;> omega
  have m2 : 0 ≤ y_mB D a b ln u := by
    unfold y_mB
    by_cases q : u = b
    · rw [if_pos q]; exact Int.le_refl 0
    · have bb := y_lB_b (a := a) (b := b) (v := u + 1) d (by omega) hl
      rw [if_neg q]
      split <;> omega
  have x1 := z_maxb 0 (y_wa D a b u - y_mA D a b ln u)
  have x2 := z_maxb 0 (y_wb D a b u - y_mB D a b ln u)
  unfold y_pA y_pB
  constructor
  · split <;> omega
  · split <;> omega
theorem y_w_b {D : z_M} {n a b u : Int} (d : y_DF D n) (h : 0 ≤ u ∧ u < n) : 0 ≤ y_w D a b u ∧ y_w D a b u ≤ 2400 := by
  have := (d u h.1 h.2).2.1
  unfold y_w
  split
  · decide
  · split
    · decide
    · exact this
theorem y_one2_b {D : z_M} {n a b ln u : Int} (d : y_DF D n) (hA : 0 ≤ a) (hB : b < n) (hn : n ≤ 200) (h : a ≤ u ∧ u ≤ b) (hl : 0 ≤ ln ∧ ln ≤ 6) : 0 ≤ y_one2 D a b ln u ∧ y_one2 D a b ln u ≤ 30000 := by
  have h1 := y_w_b (a := a) (b := b) d (show 0 ≤ u ∧ u < n by omega)
  have h2 := y_sAB_b (D := D) (a := a) (b := b) (u := u)
  have h3 := y_pAB_r d hA hB hn h hl
  unfold y_one2
  omega
theorem y_LG_b {D : z_M} {n a b ln : Int} (d : y_DF D n) (hA : 0 ≤ a) (hB : b < n) (hn : n ≤ 200) (hl : 0 ≤ ln ∧ ln ≤ 6) : 0 ≤ y_LG D a b ln ∧ y_LG D a b ln ≤ 6000000 := by
  have s := y_sum_r (f := y_one2 D a b ln) (a := a) (m := 30000) (b + 1 - a).toNat (fun i p q => y_one2_b d hA hB hn ⟨p, by omega⟩ hl)
  unfold y_LG
  have : ((b + 1 - a).toNat : Int) ≤ 200 := by omega
  omega
/-- rows at the time of the last loop -/
def y_LJ (D s : z_M) (a b ln u : Int) : Prop := y_LB D s a b ∧ (∀ v : Int, a ≤ v → v < u → s 3227 v = y_pA D a b ln v ∧ s 3228 v = y_pB D a b ln v) ∧ ∀ v : Int, u ≤ v → v ≤ b → s 3227 v = 0 ∧ s 3228 v = 0
theorem em_lay97 {fu : Nat} {D s : z_M} {n a b ln u c : Int} {r : z_M → Int → Int → z_O} {k : z_M → Int → z_O} (d : y_DF D n) (hA : 0 ≤ a) (hB : b < n) (hn : n ≤ 200) (h : a ≤ u ∧ u ≤ b) (hl : 0 ≤ ln ∧ ln ≤ 6) (hc : 0 ≤ c ∧ c ≤ 6000000) (lb : y_LB D s a b) (eA : s 3227 u = y_pA D a b ln u) (eB : s 3228 u = y_pB D a b ln u) : fX12_lays_J97 fu s 309 a b c u r k = r s (c + y_one2 D a b ln u) (u + 1) := by
  have u2 : 0 ≤ u ∧ u < 200 := by omega
  have l := lb u h.1 h.2
  have h1 := y_w_b (a := a) (b := b) d (show 0 ≤ u ∧ u < n by omega)
  have h2 := y_sAB_b (D := D) (a := a) (b := b) (u := u)
  have h3 := y_pAB_r d hA hB hn h hl
  unfold fX12_lays_J97
  simp only [z_let, if_pos v_ob309, v_gm25, v_gm26, v_gm27, v_gm28, v_gm29, if_pos (v_x3224 u2), if_pos (v_x3225 u2), if_pos (v_x3226 u2), if_pos (v_x3227 u2), if_pos (v_x3228 u2), l.1.1, l.1.2.1, l.1.2.2, eA, eB]
  unfold y_one2
  rw [v_wid (show -2147483648 ≤ y_w D a b u + y_sA D a b u ∧ y_w D a b u + y_sA D a b u ≤ 2147483647 by omega), v_wid (show -2147483648 ≤ y_w D a b u + y_sA D a b u + y_sB D a b u ∧ y_w D a b u + y_sA D a b u + y_sB D a b u ≤ 2147483647 by omega), v_wid (show -2147483648 ≤ y_w D a b u + y_sA D a b u + y_sB D a b u + y_pA D a b ln u ∧ y_w D a b u + y_sA D a b u + y_sB D a b u + y_pA D a b ln u ≤ 2147483647 by omega), v_wid (show -2147483648 ≤ y_w D a b u + y_sA D a b u + y_sB D a b u + y_pA D a b ln u + y_pB D a b ln u ∧ y_w D a b u + y_sA D a b u + y_sB D a b u + y_pA D a b ln u + y_pB D a b ln u ≤ 2147483647 by omega), v_wid (show -2147483648 ≤ c + (y_w D a b u + y_sA D a b u + y_sB D a b u + y_pA D a b ln u + y_pB D a b ln u) ∧ c + (y_w D a b u + y_sA D a b u + y_sB D a b u + y_pA D a b ln u + y_pB D a b ln u) ≤ 2147483647 by omega), v_wid (show -2147483648 ≤ u + 1 ∧ u + 1 ≤ 2147483647 by omega)]
theorem em_layL {fu : Nat} {D : z_M} {a b ln : Int} {s0 : z_M} {k : z_M → Int → z_O} {P : z_V → z_M → Prop} (h : y_MU2 D s0) (hb : b < s0 309 20) (ha : 0 ≤ a) (hl : s0 312 2 = ln) (hln : 0 ≤ ln ∧ ln ≤ 6)
    (hk : ∀ s' : z_M, y_LB D s' a b → (∀ v : Int, a ≤ v → v ≤ b → s' 3227 v = y_pA D a b ln v ∧ s' 3228 v = y_pB D a b ln v) → (∀ x y : Int, ¬ (x = 3227 ∨ x = 3228) → s' x y = s0 x y) → z_T (k s' (y_LG D a b ln)) P) :
    ∀ (m F : Nat) (s : z_M) (c u : Int), (m : Int) = b + 1 - u → m < F → a ≤ u → c = y_sum (y_one2 D a b ln) a (u - a).toNat → y_LJ D s a b ln u → (∀ x y : Int, ¬ (x = 3227 ∨ x = 3228) → s x y = s0 x y) → z_T (fX12_lays_L17 fu 309 a b F s c u k) P := by
  intro m
  induction m with
  | zero =>
    intro F s c u h1 hF h3 hc j f
    obtain ⟨F, rfl⟩ : ∃ F2, F = F2 + 1 := ⟨F - 1, by omega⟩
    refine T_of (fX12_lays_L17.eq_2 ..) ?_
    refine T_if1 (show b < u by omega) ?_
    have e : c = y_LG D a b ln := by
      unfold y_LG
      rw [hc, show u = b + 1 by omega]
    rw [e]
    exact hk s j.1 (fun v p q => j.2.1 v p (by omega)) f
  | succ m ih =>
    intro F s c u h1 hF h3 hc j f
    obtain ⟨F, rfl⟩ : ∃ F2, F = F2 + 1 := ⟨F - 1, by omega⟩
    have hs : y_MU2 D s := h.fr (f _ _ (by decide)) (fun c d p q => f c d (by omega)) (fun j q => f _ _ (by decide))
    have e20 : s 309 20 = s0 309 20 := f _ _ (by decide)
    have e2 : s 312 2 = ln := (f _ _ (by decide)).trans hl
    have nn := hs.1.1
    have u2 : 0 ≤ u ∧ u < 200 := by omega
    obtain ⟨lb, jl, jr⟩ := j
    have l := lb u h3 (by omega)
    have r0 := jr u (Int.le_refl _) (by omega)
    have wb := y_wab_b hs.2.2.2 ha (show b < s 309 20 by omega) nn.2 ⟨h3, (by omega : u ≤ b)⟩
    have cs := y_sum_r (f := y_one2 D a b ln) (a := a) (m := 30000) (u - a).toNat (fun i p q => y_one2_b hs.2.2.2 ha (show b < s 309 20 by omega) nn.2 ⟨p, by omega⟩ hln)
    have cb : ((u - a).toNat : Int) ≤ 200 := by omega
    have mAb := em_mayAhead (fu := fu) hs lb ha (by omega) ⟨h3, (by omega : u ≤ b)⟩ e2 hln
    -- behind
    have rest : ∀ s1 : z_M, s1 3227 u = y_pA D a b ln u → s1 3228 u = 0 → (∀ x y : Int, ¬ (x = 3227 ∧ y = u) → s1 x y = s x y) → z_T (fX12_lays_J60 fu s1 309 a b c u (fun w v3 v4 => fX12_lays_L17 fu 309 a b F w v3 v4 k) k) P := fun s1 gA gB g1 => by
      have hs1 : y_MU2 D s1 := hs.fr (g1 _ _ (by omega)) (fun c d p q => g1 c d (by omega)) (fun j q => g1 _ _ (by omega))
      have lb1 : y_LB D s1 a b := fun v p q => by
        rw [g1 3224 v (by omega), g1 3225 v (by omega), g1 3226 v (by omega), g1 3230 v (by omega), g1 3231 v (by omega)]; exact lb v p q
      have fin : ∀ s2 : z_M, s2 3228 u = y_pB D a b ln u → (∀ x y : Int, ¬ (x = 3228 ∧ y = u) → s2 x y = s1 x y) → z_T (fX12_lays_J97 fu s2 309 a b c u (fun w v3 v4 => fX12_lays_L17 fu 309 a b F w v3 v4 k) k) P := fun s2 hB2 g2 => by
        have lb2 : y_LB D s2 a b := fun v p q => by
          rw [g2 3224 v (by omega), g2 3225 v (by omega), g2 3226 v (by omega), g2 3230 v (by omega), g2 3231 v (by omega)]; exact lb1 v p q
        refine T_of (em_lay97 hs.2.2.2 ha (show b < s 309 20 by omega) nn.2 ⟨h3, (by omega : u ≤ b)⟩ hln (by omega) lb2 ((g2 _ _ (by omega)).trans gA) hB2) ?_
        refine ih F s2 _ (u + 1) (by omega) (by omega) (by omega) ?_ ⟨lb2, fun v p q => ?_, fun v p q => ?_⟩ (fun x y q => ?_)
        · rw [show (u + 1 - a).toNat = (u - a).toNat + 1 by omega, y_sum_s, hc, show a + (((u - a).toNat : Nat) : Int) = u by omega]
        · by_cases z : v = u
          · subst z
            exact ⟨(g2 _ _ (by omega)).trans gA, hB2⟩
          · rw [g2 3227 v (by omega), g2 3228 v (by omega), g1 3227 v (by omega), g1 3228 v (by omega)]
            exact jl v p (by omega)
        · rw [g2 3227 v (by omega), g2 3228 v (by omega), g1 3227 v (by omega), g1 3228 v (by omega)]
          exact jr v (by omega) q
        · rw [g2 x y (by omega), g1 x y (by omega)]; exact f x y q
      have w31 : s1 3231 u = y_wb D a b u := (lb1 u h3 (by omega)).2.2
      refine T_of (fX12_lays_J60.eq_1 ..) ?_
      refine T_if1 v_ob309 ?_
      refine T_let 3231 v_gm32 ?_
      refine T_if1 (v_x3231 u2) ?_
      refine T_let (y_wb D a b u) w31 ?_
      refine T_ite (fun q => ?_) (fun q => ?_)
      · exact fin s1 (by rw [gB, y_pB_n (by omega)]) (fun _ _ _ => rfl)
      · refine T_if1 v_ob309 ?_
        refine T_let 3228 v_gm29 ?_
        refine T_if1 v_ob309 ?_
        refine T_let 3231 v_gm32 ?_
        refine T_if1 (v_x3231 u2) ?_
        refine T_let (y_wb D a b u) w31 ?_
        refine T_if1 v_ob309 ?_
        refine T_bI (T_of (em_mayBehind hs1 lb1 ha (by rw [g1 309 20 (by omega)]; omega) ⟨h3, (by omega : u ≤ b)⟩ ((g1 312 2 (by omega)).trans e2) hln) (T_rI ?_))
        have m2 : 0 ≤ y_mB D a b ln u ∧ y_mB D a b ln u ≤ 6 := by
          unfold y_mB
          by_cases q : u = b
          · rw [if_pos q]; decide
          · have bb := y_lB_b (a := a) (b := b) (v := u + 1) hs.2.2.2 (by omega) hln
            rw [if_neg q]
            split <;> omega
        refine T_let (y_wb D a b u - y_mB D a b ln u) (v_wid (by omega)) ?_
        refine T_bI (T_of em_max (T_rI ?_))
        refine T_if1 (v_x3228 u2) ?_
        refine T_up ?_
        refine fin _ ?_ (fun x y w => z_up_k2 w)
        rw [z_up_s]
        unfold y_pB
        rw [if_pos (by omega)]
    refine T_of (fX12_lays_L17.eq_2 ..) ?_
    refine T_if0 (show ¬ b < u by omega) ?_
    refine T_if1 v_ob309 ?_
    refine T_let 3230 v_gm31 ?_
    refine T_if1 (v_x3230 u2) ?_
    refine T_let (y_wa D a b u) l.2.1 ?_
    refine T_ite (fun q => ?_) (fun q => ?_)
    · exact rest s (by rw [r0.1, y_pA_n (by omega)]) r0.2 (fun _ _ _ => rfl)
    · refine T_if1 v_ob309 ?_
      refine T_let 3227 v_gm28 ?_
      refine T_if1 v_ob309 ?_
      refine T_let 3230 v_gm31 ?_
      refine T_if1 (v_x3230 u2) ?_
      refine T_let (y_wa D a b u) l.2.1 ?_
      refine T_if1 v_ob309 ?_
      refine T_bI (T_of mAb (T_rI ?_))
      have m2 : 0 ≤ y_mA D a b ln u ∧ y_mA D a b ln u ≤ 6 := by
        unfold y_mA
        by_cases q : u = a
        · rw [if_pos q]; decide
        · have bb := y_lA_b (a := a) (b := b) (v := u - 1) hs.2.2.2 (by omega) hln
          rw [if_neg q]
          split <;> omega
      refine T_let (y_wa D a b u - y_mA D a b ln u) (v_wid (by omega)) ?_
      refine T_bI (T_of em_max (T_rI ?_))
      refine T_if1 (v_x3227 u2) ?_
      refine T_up ?_
      refine rest _ ?_ ((z_up_k (by decide)).trans r0.2) (fun x y w => z_up_k2 w)
      rw [z_up_s]
      unfold y_pA
      rw [if_pos (by omega)]
theorem em_lays {fu : Nat} (hfu : 8589934592 ≤ fu) {D s : z_M} (h : y_MU2 D s) {a b ln : Int} (ha : 0 ≤ a ∧ a ≤ b) (hb : b < s 309 20) (hl : s 312 2 = ln) (hln : 0 ≤ ln ∧ ln ≤ 6) :
    z_T (fX12_lays fu s 309 a b) (fun v s' => v = vI (y_LG D a b ln) ∧ y_LN D s' a b ln ∧ ∀ x y : Int, ¬ (3224 ≤ x ∧ x ≤ 3233) → ¬ (x = 309 ∧ y = 35) → s' x y = s x y) := by
  have nn := h.1.1
  have ft := y_ft (D := D) (show a ≤ b + 1 by omega)
  refine T_of (fX12_lays.eq_1 ..) ?_
  refine T_if1 v_ob309 ?_
  refine T_useN (em_laysSpaces hfu h ha hb) (fun v s1 hq => ?_)
  obtain ⟨rfl, ls, lh, lf⟩ := hq
  refine T_vN ?_
  have h1 : y_MU2 D s1 := h.fr (lf _ _ (by decide) (by decide)) (fun c d p q => lf c d (by omega) (by omega)) (fun j q => lf _ _ (by decide) (by omega))
  have e20 : s1 309 20 = s 309 20 := lf _ _ (by decide) (by decide)
  refine T_if1 v_ob309 ?_
  refine T_useN (em_laysBlocks hfu h1 ha (by omega) (fun v p q k7 => ?_)) (fun v s2 hq => ?_)
  · rw [(ls v p q).1]
    have f1 : y_fr D a b ≤ v := by
      by_cases z : y_fr D a b ≤ v
      · exact z
      · have := ft.2.2.1 v p (by omega); omega
    have f2 : v ≤ y_to D a b := by
      by_cases z : v ≤ y_to D a b
      · exact z
      · have := ft.2.2.2.1 v (by omega) q; omega
    unfold y_w
    rw [if_neg (show ¬ (v < y_fr D a b ∨ y_to D a b < v) by omega), if_neg (fun x => ?_)]
    have hx := x.1
    unfold y_hg at hx
    by_cases w : D 5 0 = 1 ∧ y_fr D a b ≤ b ∧ D 0 (y_to D a b) = 3
    · rw [x.2] at k7; omega
    · rw [if_neg w] at hx; omega
  obtain ⟨rfl, bb, bf⟩ := hq
  refine T_vN ?_
  have h2 : y_MU2 D s2 := h1.fr (bf _ _ (by decide)) (fun c d p q => bf c d (by omega)) (fun j q => bf _ _ (by decide))
  have lb : y_LB D s2 a b := fun v p q => by
    obtain ⟨c1, c2, c3, c4, c5, c6⟩ := bb v p q
    rw [bf 3224 v (by decide), bf 3225 v (by decide), bf 3226 v (by decide)]
    exact ⟨ls v p q, c4, c5⟩
  refine em_layL h2 (by rw [bf 309 20 (by decide), e20]; exact hb) ha.1 ((bf 312 2 (by decide)).trans ((lf 312 2 (by decide) (by decide)).trans hl)) hln (fun s3 lb3 g3 f3 => ?_) (b + 1 - a).toNat fu s2 0 a (by omega) (by omega) (Int.le_refl _) (by rw [show a - a = 0 by omega]; rfl) ⟨lb, fun v p q => by omega, fun v p q => ⟨(bb v p q).1, (bb v p q).2.1⟩⟩ (fun _ _ _ => rfl)
  refine T_ret ⟨rfl, ⟨fun v p q => ?_, ?_⟩, fun x y p q => ?_⟩
  · obtain ⟨c1, c2, c3, c4, c5, c6⟩ := bb v p q
    have l3 := lb3 v p q
    have p3 := g3 v p q
    refine ⟨l3.1, p3.1, p3.2, (f3 3229 v (by omega)).trans c3, l3.2.1, l3.2.2, fun w => ?_⟩
    rw [f3 3232 v (by omega), f3 3233 v (by omega)]
    exact c6 w
  · rw [f3 309 35 (by omega), bf 309 35 (by decide)]; exact lh
  · rw [f3 x y (by omega), bf x y (by omega)]; exact lf x y (by omega) q
