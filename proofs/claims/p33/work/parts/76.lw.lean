/-! LONG as the class measures it; what it has kept of that -/
theorem v_k210 : z_rw 210 ∧ z_gr 210 0 = 211 ∧ z_ln 210 = 201 := v_r210
/-- cells that the measure writes on: what it trimmed, its blocks -/
abbrev y_mw (x b : Int) : Prop := (x = 220 ∧ (b = 4 ∨ b = 5)) ∨ (225 ≤ x ∧ x ≤ 239) ∨ (x = 223 ∧ b = 9)
theorem e_clr {fu : Nat} {s : z_M} {o : Int} (ho : y_ob2 o) : fX0_clear fu s o = some (vN, z_up s o 9 0) := by
  unfold fX0_clear
  rw [if_pos (v_o ho).1]; rfl
theorem y_GI.sum {D s : z_M} {n o A B ln c0 c : Int} (_ : y_DF D n) (_ : y_GI D s o A B c0 c) : y_pd D A B ln (B + 1) = y_sum (fun u => y_pA D A B ln u + y_pB D A B ln u) A (B + 1 - A).toNat := rfl
theorem y_LG_p {D : z_M} {a b ln : Int} (h : a ≤ b + 1) : y_LG D a b ln = y_sum (D 1) (y_fr D a b) (y_to D a b + 1 - y_fr D a b).toNat - (if y_hg D a b = 1 then D 1 (y_to D a b) else 0) + y_sum (fun i => y_sA D a b i + y_sB D a b i) (y_fr D a b) (y_to D a b + 1 - y_fr D a b).toNat + y_pd D a b ln (b + 1) := by
  have e : y_one2 D a b ln = fun u => (y_w D a b u + (y_sA D a b u + y_sB D a b u)) + (y_pA D a b ln u + y_pB D a b ln u) := funext fun u => by
    unfold y_one2; omega
  unfold y_LG y_pd
  rw [e, y_sum_2 (f := fun u => y_w D a b u + (y_sA D a b u + y_sB D a b u)) (g := fun u => y_pA D a b ln u + y_pB D a b ln u), y_sum_2 (f := y_w D a b) (g := fun u => y_sA D a b u + y_sB D a b u), y_sum_w h, y_sum_sp h]
/-- sums of widths by what was added up -/
theorem y_bef {D : z_M} {x y : Int} (h0 : 0 ≤ x) (h1 : x ≤ y) : y_sum (D 1) 0 y.toNat - y_sum (D 1) 0 x.toNat = y_sum (D 1) x (y - x).toNat := by
  have e := y_sum_pt (f := D 1) (a := 0) (x := x) (y := y) h0 h1
  rw [show y - 0 = y by omega, show x - 0 = x by omega] at e
  omega
theorem y_sumW_b {D : z_M} {n : Int} (d : y_DF D n) (hn : n ≤ 200) {v : Int} (h0 : 0 ≤ v) (h1 : v ≤ n) : 0 ≤ y_sum (D 1) 0 v.toNat ∧ y_sum (D 1) 0 v.toNat ≤ 480000 := by
  have s := y_sum_r (f := D 1) (a := 0) (m := 2400) v.toNat (fun i p q => (d i p (by omega)).2.1)
  have : (v.toNat : Int) ≤ 200 := by omega
  omega
theorem e_lw69 {fu : Nat} (hfu : 8589934592 ≤ fu) {D s : z_M} (hu : y_CU2 D s) {a b ln c : Int} (tr : y_TR D s a b) (hl : 0 ≤ ln ∧ ln ≤ 6) (hc : -1000000 ≤ c ∧ c ≤ 1000000) :
    z_T (fX5_longWith_J69 fu s 220 ln c) (fun v s' => v = vI (c + y_sum (fun i => y_sA D a b i + y_sB D a b i) (y_fr D a b) (y_to D a b + 1 - y_fr D a b).toNat + y_pd D a b ln (b + 1)) ∧ ∀ x y : Int, ¬ y_mw x y → s' x y = s x y) := by
  have ft := y_ft (D := D) tr.2.2.1.2.1
  have n2 := hu.1.2
  have l := tr.2.2.1
  have oo : y_ob2 223 := Or.inl rfl
  have sb := y_sum_r (f := fun i => y_sA D a b i + y_sB D a b i) (a := y_fr D a b) (m := 12) (y_to D a b + 1 - y_fr D a b).toNat (fun i _ _ => by have := y_sAB_b (D := D) (a := a) (b := b) (u := i); show 0 ≤ y_sA D a b i + y_sB D a b i ∧ y_sA D a b i + y_sB D a b i ≤ 12; omega)
  have nb : ((y_to D a b + 1 - y_fr D a b).toNat : Int) ≤ 200 := by omega
  refine T_of (fX5_longWith_J69.eq_1 ..) ?_
  refine T_if1 v_220.1 ?_
  refine T_let (y_fr D a b) tr.1 ?_
  refine T_of (e_spL hu tr hc (y_to D a b + 1 - y_fr D a b).toNat fu c (y_fr D a b) (by omega) (by omega) (Int.le_refl _) (by rw [show y_fr D a b - y_fr D a b = 0 by omega]; show c = c + 0; omega)) ?_
  refine T_if1 v_220.1 ?_
  refine T_let 223 v_220.2.2.2.1 ?_
  refine T_if1 (v_o oo).1 ?_
  refine T_bN (T_of (e_clr oo) (T_rN ?_))
  have f0 : ∀ x y : Int, ¬ (x = 223 ∧ y = 9) → z_up s 223 9 0 x y = s x y := fun x y q => z_up_k2 q
  have c9 : z_up s 223 9 0 223 9 = 0 := z_up_s
  generalize z_up s 223 9 0 = s1 at f0 c9
  refine T_if1 v_220.1 ?_
  refine T_let 223 v_220.2.2.2.1 ?_
  refine T_if1 v_220.1 ?_
  refine T_let (y_fr D a b) ((f0 _ _ (by decide)).trans tr.1) ?_
  refine T_if1 v_220.1 ?_
  refine T_let (y_to D a b) ((f0 _ _ (by decide)).trans tr.2.1) ?_
  refine T_if1 (v_o oo).1 ?_
  have hu1 : y_CU2 D s1 := hu.fr (f0 _ _ (by decide)) (f0 _ _ (by decide)) (fun x y p q => f0 _ _ (by omega))
  refine T_useN (e_gather hfu oo hu1 (by omega) (by rw [f0 191 16 (by decide)]; omega) (by omega) ⟨Int.le_refl 0, by omega⟩ c9) (fun v s2 hq => ?_)
  obtain ⟨rfl, ⟨cc, g, g9⟩, f2⟩ := hq
  refine T_vN ?_
  have hu2 : y_CU2 D s2 := hu1.fr (f2 _ _ (by omega) (by omega)) (f2 _ _ (by omega) (by omega)) (fun x y p q => f2 _ _ (by omega) (by omega))
  have e4 : s2 220 4 = y_fr D a b := (f2 _ _ (by omega) (by omega)).trans ((f0 _ _ (by decide)).trans tr.1)
  have e5 : s2 220 5 = y_to D a b := (f2 _ _ (by omega) (by omega)).trans ((f0 _ _ (by decide)).trans tr.2.1)
  have en : s2 191 16 = s 191 16 := (f2 _ _ (by omega) (by omega)).trans (f0 _ _ (by decide))
  have g1 := g.1
  refine T_if1 v_220.1 ?_
  refine T_let 223 v_220.2.2.2.1 ?_
  refine T_if1 v_220.1 ?_
  refine T_let (y_fr D a b) e4 ?_
  refine T_if1 v_220.1 ?_
  refine T_let (y_to D a b) e5 ?_
  refine T_if1 (v_o oo).1 ?_
  refine T_bI (T_of (fX0_hang.eq_1 ..) ?_)
  refine e_hangL (D := D) (A := a) (B := b) (c0 := 0) (c := cc) oo hu2 ⟨l.1, l.2.1⟩ (by omega) (Int.le_refl 0) hl (by omega) g9 g (fun s3 hb f3 => ?_) cc.toNat fu s2 0 0 a (by omega) (by omega) (Int.le_refl 0) (fun _ _ _ => rfl) (fun k p q => by omega) (by unfold y_pd; rw [show a - a = 0 by omega]; rfl) (Int.le_refl _) (fun _ => rfl) (fun q => by omega) ⟨Int.le_refl 0, by omega⟩
  refine T_rI ?_
  have lb := y_LG_b hu.2.2.2.2 l.1 l.2.2 n2 hl
  have ep := y_LG_p (D := D) (a := a) (b := b) (ln := ln) l.2.1
  have wb := y_sum_r (f := D 1) (a := y_fr D a b) (m := 2400) (y_to D a b + 1 - y_fr D a b).toNat (fun i p q => (hu.2.2.2.2 i (by omega) (by omega)).2.1)
  have tb : 0 ≤ (if y_hg D a b = 1 then D 1 (y_to D a b) else 0) ∧ (if y_hg D a b = 1 then D 1 (y_to D a b) else 0) ≤ 480000 := by
    by_cases q : y_hg D a b = 1
    · rw [if_pos q]
      unfold y_hg at q
      by_cases w : D 5 0 = 1 ∧ y_fr D a b ≤ b ∧ D 0 (y_to D a b) = 3
      · have t := ft.2.2.2.2.1 w.2.1
        have := (hu.2.2.2.2 (y_to D a b) (by omega) (by omega)).2.1
        omega
      · rw [if_neg w] at q; omega
    · rw [if_neg q]; decide
  refine T_let (c + y_sum (fun i => y_sA D a b i + y_sB D a b i) (y_fr D a b) (y_to D a b + 1 - y_fr D a b).toNat + y_pd D a b ln (b + 1)) (v_wid (by omega)) ?_
  refine T_ret ⟨rfl, fun x y q => ?_⟩
  rw [f3 x y (by omega), f2 x y (by omega) (by omega), f0 x y (by omega)]
theorem e_longWith {fu : Nat} (hfu : 8589934592 ≤ fu) {D s : z_M} (hu : y_CU2 D s) {a b ln : Int} (h0 : 0 ≤ a ∧ a ≤ b + 1) (h1 : b < s 191 16) (hz : a = b + 1 → a = 0) (hl : 0 ≤ ln ∧ ln ≤ 6) :
    z_T (fX5_longWith fu s 220 a b ln) (fun v s' => v = vI (y_LG D a b ln) ∧ ∀ x y : Int, ¬ y_mw x y → s' x y = s x y) := by
  have n2 := hu.1.2
  have ft := y_ft (D := D) h0.2
  refine T_of (fX5_longWith.eq_1 ..) ?_
  refine T_if1 v_220.1 ?_
  refine T_useN (e_trim hfu hu h0 h1) (fun v s1 hq => ?_)
  obtain ⟨rfl, t4, t5, tf⟩ := hq
  refine T_vN ?_
  have hu1 : y_CU2 D s1 := hu.fr (tf _ _ (by decide)) (tf _ _ (by decide)) (fun x y p q => tf _ _ (by omega))
  have en : s1 191 16 = s 191 16 := tf _ _ (by decide)
  have tr : y_TR D s1 a b := ⟨t4, t5, ⟨h0.1, h0.2, by omega⟩, hz⟩
  have w1 := y_sumW_b hu.2.2.2.2 n2 (v := y_to D a b + 1) (by omega) (by omega)
  have w2 := y_sumW_b hu.2.2.2.2 n2 (v := y_fr D a b) (by omega) (by omega)
  have eb := y_bef (D := D) (x := y_fr D a b) (y := y_to D a b + 1) (by omega) (by omega)
  have ep := y_LG_p (D := D) (a := a) (b := b) (ln := ln) h0.2
  refine T_if1 v_220.1 ?_
  refine T_let 191 v_220.2.1 ?_
  refine T_if1 v_ob191 ?_
  refine T_let 210 v_u11 ?_
  refine T_if1 v_220.1 ?_
  refine T_let (y_to D a b) t5 ?_
  refine T_let (y_to D a b + 1) (v_wid (by omega)) ?_
  refine T_if1 v_k210.1.1 ?_
  refine T_getX v_k210 ⟨by omega, by omega⟩ ?_
  rw [hu1.2.2.2.1 (y_to D a b + 1) (by omega) (by omega)]
  refine T_if1 v_220.1 ?_
  refine T_let 191 v_220.2.1 ?_
  refine T_if1 v_ob191 ?_
  refine T_let 210 v_u11 ?_
  refine T_if1 v_220.1 ?_
  refine T_let (y_fr D a b) t4 ?_
  refine T_if1 v_k210.1.1 ?_
  refine T_getX v_k210 ⟨by omega, by omega⟩ ?_
  rw [hu1.2.2.2.1 (y_fr D a b) (by omega) (by omega)]
  refine T_let (y_sum (D 1) (y_fr D a b) (y_to D a b + 1 - y_fr D a b).toNat) (by rw [v_wid (by omega)]; exact eb) ?_
  refine T_if1 v_220.1 ?_
  refine T_let (y_to D a b) t5 ?_
  refine T_if1 v_220.1 ?_
  refine T_bI (T_of (e_hangsOut hu1 tr (Int.le_refl _) (Or.inr rfl)) (T_rI ?_))
  have e1 : (if y_hg D a b = 1 ∧ y_to D a b = y_to D a b then (1 : Int) else 0) = y_hg D a b := by
    rcases y_hg_01 (D := D) (a := a) (b := b) with q | q
    · rw [q, if_neg (fun w => absurd w.1 (by decide))]
    · rw [q, if_pos ⟨rfl, rfl⟩]
  rw [e1]
  refine T_ite (fun q => ?_) (fun q => ?_)
  · rw [if_neg (show ¬ y_hg D a b = 1 by omega)] at ep
    refine T_mono (e_lw69 hfu hu1 tr hl (by omega)) (fun v s2 hq => ⟨?_, fun x y r => (hq.2 x y r).trans (tf x y (by omega))⟩)
    rw [hq.1, ep]
    congr 1
    omega
  · have q1 : y_hg D a b = 1 := by rcases y_hg_01 (D := D) (a := a) (b := b) with w | w <;> omega
    rw [if_pos q1] at ep
    have t0 : 0 ≤ y_to D a b := by
      unfold y_hg at q1
      by_cases w : D 5 0 = 1 ∧ y_fr D a b ≤ b ∧ D 0 (y_to D a b) = 3
      · have t := ft.2.2.2.2.1 w.2.1
        omega
      · rw [if_neg w] at q1; omega
    have tw := hu1.2.2.1 (y_to D a b) t0 (by omega)
    have tb := (hu.2.2.2.2 (y_to D a b) t0 (by omega)).2.1
    refine T_if1 v_220.1 ?_
    refine T_let 191 v_220.2.1 ?_
    refine T_if1 v_ob191 ?_
    refine T_let 198 v_u5 ?_
    refine T_if1 v_220.1 ?_
    refine T_let (y_to D a b) t5 ?_
    refine T_if1 v_r198.1.1 ?_
    refine T_getX v_r198 ⟨t0, by omega⟩ ?_
    rw [tw.2.1]
    refine T_let (y_sum (D 1) (y_fr D a b) (y_to D a b + 1 - y_fr D a b).toNat - D 1 (y_to D a b)) (v_wid (by omega)) ?_
    refine T_mono (e_lw69 hfu hu1 tr hl (by omega)) (fun v s2 hq => ⟨?_, fun x y r => (hq.2 x y r).trans (tf x y (by omega))⟩)
    rw [hq.1, ep]
/-- slots of what is kept -/
def y_sl2 (a b : Int) : Int := b * (b + 1) / 2 + a
theorem y_sq {b : Int} (h0 : 0 ≤ b) (h1 : b ≤ 200) : 0 ≤ b * (b + 1) ∧ b * (b + 1) ≤ 40200 := by
  have e : b * (b + 1) ≤ 200 * (b + 1) := Int.mul_le_mul_of_nonneg_right h1 (by omega)
  have g : 0 ≤ b * (b + 1) := Int.mul_nonneg h0 (by omega)
  omega
theorem y_sl2_s {b : Int} (h0 : 0 ≤ b) : (b + 1) * (b + 1 + 1) / 2 = b * (b + 1) / 2 + (b + 1) := by
  have e : (b + 1) * (b + 1 + 1) = b * (b + 1) + (b + 1) * 2 := by
    rw [Int.mul_comm b (b + 1), ← Int.mul_add]
    congr 1
    omega
  rw [e, Int.add_mul_ediv_right _ _ (by decide)]
theorem y_sl2_m {b c : Int} (h0 : 0 ≤ b) (h1 : b < c) : b * (b + 1) / 2 + b < c * (c + 1) / 2 := by
  have m : ∀ n : Nat, b * (b + 1) / 2 + b < (b + 1 + n) * (b + 1 + n + 1) / 2 := by
    intro n
    induction n with
    | zero =>
      rw [show b + 1 + ((0 : Nat) : Int) = b + 1 by omega, y_sl2_s h0]
      omega
    | succ n ih =>
      rw [show b + 1 + ((n + 1 : Nat) : Int) = b + 1 + n + 1 by omega, y_sl2_s (by omega)]
      omega
  have := m (c - (b + 1)).toNat
  rw [show b + 1 + (((c - (b + 1)).toNat : Nat) : Int) = c by omega] at this
  exact this
/-- slots tell the units apart -/
theorem y_sl2_i {a b c d : Int} (h0 : 0 ≤ a) (h1 : a ≤ b) (h2 : 0 ≤ c) (h3 : c ≤ d) (e : y_sl2 a b = y_sl2 c d) : a = c ∧ b = d := by
  unfold y_sl2 at e
  by_cases q : b < d
  · have := y_sl2_m (b := b) (c := d) (by omega) q; omega
  · by_cases q2 : d < b
    · have := y_sl2_m (b := d) (c := b) (by omega) q2; omega
    · have : b = d := by omega
      subst this
      exact ⟨by omega, rfl⟩
theorem y_sl2_b {a b n : Int} (h0 : 0 ≤ a) (h1 : a ≤ b) (h2 : b < n) (hn : n ≤ 200) : 0 ≤ y_sl2 a b ∧ y_sl2 a b < n * (n + 1) / 2 ∧ y_sl2 a b < 20100 := by
  have m := y_sl2_m (b := b) (c := n) (by omega) h2
  have s := y_sq (b := b) (by omega) (by omega)
  have s2 := y_sq (b := n) (by omega) hn
  unfold y_sl2
  omega
theorem e_slotOf {fu : Nat} {s : z_M} {a b : Int} (h0 : 0 ≤ a ∧ a ≤ 200) (h1 : 0 ≤ b ∧ b ≤ 200) : fX5_slotOf fu s a b = some (vI (y_sl2 a b), s) := by
  have q := y_sq h1.1 h1.2
  unfold fX5_slotOf y_sl2
  simp only [z_let]
  rw [v_wid (show -2147483648 ≤ b + 1 ∧ b + 1 ≤ 2147483647 by omega), v_wid (show -2147483648 ≤ b * (b + 1) ∧ b * (b + 1) ≤ 2147483647 by omega), if_pos (by decide), v_td2 q.1, v_wid (show -2147483648 ≤ b * (b + 1) / 2 ∧ b * (b + 1) / 2 ≤ 2147483647 by omega), v_wid (by omega)]
/-- what is kept of LONG is right -/
def y_KN (D s : z_M) : Prop := ∀ a b : Int, 0 ≤ a → a ≤ b → b < s 191 16 → s 222 (y_sl2 a b) = 0 ∨ s 222 (y_sl2 a b) = y_LG D a b (s 3 2) + 1
theorem y_KN.fr {D s s' : z_M} (h : y_KN D s) (e : s' 191 16 = s 191 16) (e2 : s' 3 2 = s 3 2) (f : ∀ b, s' 222 b = s 222 b) : y_KN D s' := fun a b p q r => by
  rw [f, e2]; exact h a b p q (by omega)
theorem e_lengthOf {fu : Nat} (hfu : 8589934592 ≤ fu) {D s : z_M} (hu : y_CU2 D s) (kn : y_KN D s) (hl : 0 ≤ s 3 2 ∧ s 3 2 ≤ 6) {a b : Int} (h0 : 0 ≤ a ∧ a ≤ b) (h1 : b < s 191 16) :
    z_T (fX5_lengthOf fu s 220 a b) (fun v s' => v = vI (y_LG D a b (s 3 2)) ∧ y_KN D s' ∧ ∀ x y : Int, ¬ y_mw x y → x ≠ 222 → s' x y = s x y) := by
  have n2 := hu.1.2
  have lb := y_LG_b hu.2.2.2.2 h0.1 h1 n2 hl
  have sb := y_sl2_b h0.1 h0.2 h1 n2
  refine T_of (fX5_lengthOf.eq_1 ..) ?_
  refine T_bI (T_of (e_slotOf ⟨h0.1, by omega⟩ ⟨by omega, by omega⟩) (T_rI ?_))
  refine T_if1 v_220.1 ?_
  refine T_let 221 v_220.2.2.2.2 ?_
  refine T_if1 v_r221.1.1 ?_
  refine T_getX v_r221 ⟨sb.1, sb.2.2⟩ ?_
  have kab := kn a b h0.1 h0.2 h1
  refine T_let (s 222 (y_sl2 a b) - 1) (v_wid (by omega)) ?_
  refine T_ite (fun q => ?_) (fun q => ?_)
  · refine T_of (fX5_lengthOf_J51.eq_1 ..) ?_
    have e : s 222 (y_sl2 a b) - 1 = y_LG D a b (s 3 2) := by omega
    rw [e]
    exact T_ret ⟨rfl, kn, fun _ _ _ _ => rfl⟩
  · refine T_if1 v_220.1 ?_
    refine T_let 2 v_220.2.2.1 ?_
    refine T_if1 v_s2.1.1 ?_
    refine T_getX v_s2 (by decide) ?_
    refine T_if1 v_220.1 ?_
    refine T_useI (e_longWith hfu hu ⟨h0.1, by omega⟩ h1 (fun w => by omega) hl) (fun v s1 hq => ?_)
    obtain ⟨rfl, f1⟩ := hq
    refine T_vI ?_
    refine T_if1 v_220.1 ?_
    refine T_let 221 v_220.2.2.2.2 ?_
    refine T_let (y_LG D a b (s 3 2) + 1) (v_wid (by omega)) ?_
    refine T_if1 v_r221.1.1 ?_
    refine T_putX v_r221 ⟨sb.1, sb.2.2⟩ ?_
    refine T_of (fX5_lengthOf_J51.eq_1 ..) ?_
    refine T_ret ⟨rfl, fun c d p q r => ?_, fun x y w z => (z_up_k z).trans (f1 x y w)⟩
    rw [z_up_k (show (191 : Int) ≠ 222 by decide), f1 191 16 (by omega)] at r
    rw [z_up_k (show (3 : Int) ≠ 222 by decide), f1 3 2 (by omega)]
    by_cases z : y_sl2 c d = y_sl2 a b
    · obtain ⟨rfl, rfl⟩ := y_sl2_i p q h0.1 h0.2 z
      right
      exact z_up_s
    · rw [z_up_j z, f1 222 _ (by omega)]
      exact kn c d p q r
theorem e_forget {fu : Nat} (hfu : 8589934592 ≤ fu) {D s : z_M} (hn : 0 ≤ s 191 16 ∧ s 191 16 ≤ 200) : z_T (fX5_forget fu s 220) (fun v s' => v = vN ∧ y_KN D s' ∧ ∀ x y : Int, x ≠ 222 → s' x y = s x y) := by
  have q := y_sq hn.1 hn.2
  refine T_of (fX5_forget.eq_1 ..) ?_
  refine T_if1 v_220.1 ?_
  refine T_let 221 v_220.2.2.2.2 ?_
  refine T_if1 v_220.1 ?_
  refine T_let 191 v_220.2.1 ?_
  refine T_if1 v_ob191 ?_
  refine T_let (s 191 16) rfl ?_
  refine T_bI (T_of (e_slotOf ⟨Int.le_refl 0, by decide⟩ hn) (T_rI ?_))
  refine T_if1 v_r221.1.1 ?_
  refine T_bN (T_of (e_clear hfu v_r221.1 (by unfold y_sl2; omega)) (T_rN ?_))
  have o : ∀ x y : Int, x ≠ 222 → z_cl s 221 (y_sl2 0 (s 191 16)) x y = s x y := fun x y w => by
    unfold z_cl
    rw [if_neg (fun z => w (z.1.trans v_r221.2.1))]
  refine T_ret ⟨rfl, fun a b p r t => Or.inl ?_, o⟩
  rw [o 191 16 (by decide)] at t
  have sb := y_sl2_b p r t hn.2
  unfold z_cl
  rw [if_pos ⟨v_r221.2.1.symm, sb.1, by unfold y_sl2 at *; omega, by rw [v_r221.2.2]; exact sb.2.2⟩]
