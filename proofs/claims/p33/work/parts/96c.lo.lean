/-! the reference's layout: a line -/
/-- units' signs lie one behind the other -/
def y_FM (s : z_M) : Prop := ∀ v u : Int, 0 ≤ v → v < u → u < s 309 20 → s 3221 v + s 3222 v ≤ s 3221 u
/-- cells that laying out units of a line writes on: fa its first sign, c0 its first block -/
abbrev y_lnw (a fa l c0 x y : Int) : Prop := ((x = 3441 ∨ x = 3442 ∨ x = 3444 ∨ x = 3445) ∧ a ≤ y) ∨ (x = 3443 ∧ fa ≤ y) ∨ ((x = 3448 ∨ x = 3449) ∧ y = l) ∨ (x = 309 ∧ y = 58) ∨ (3452 + c0 ≤ x ∧ x ≤ 3651)
theorem y_LN.fr {D s s' : z_M} {a b ln : Int} (h : y_LN D s a b ln) (f : ∀ x y : Int, (3224 ≤ x ∧ x ≤ 3233) ∨ (x = 309 ∧ y = 35) → s' x y = s x y) : y_LN D s' a b ln := by
  obtain ⟨h1, h2⟩ := h
  refine ⟨fun v p q => ?_, (f _ _ (by decide)).trans h2⟩
  have w := h1 v p q
  rw [f 3224 v (by omega), f 3225 v (by omega), f 3226 v (by omega), f 3227 v (by omega), f 3228 v (by omega), f 3229 v (by omega), f 3230 v (by omega), f 3231 v (by omega), f 3232 v (by omega), f 3233 v (by omega)]
  exact w
/-- the numbers of units of a line ahead of u -/
def y_UMs (D : z_M) (E Q : Int → Int) (s : z_M) (l a b c0 u : Int) : Prop := ∀ v : Int, a ≤ v → v < u → y_UM D E Q s l a b v ∧ (y_sa D a v → y_BW D s (c0 + y_ns D a v) a b (Q 1) v)
theorem em_lineL {fu : Nat} (hfu : 8589934592 ≤ fu) {D s0 : z_M} {Q : Int → Int} {tt n : Int} (mp0 : y_MP D s0) (fm : y_FM s0) (eT : s0 312 7 = tt) (en : s0 309 20 = n) (hw : ∀ u : Int, 0 ≤ u → u < n → 1 ≤ D 1 u) {l a b G rest full c0 : Int} (ha : 0 ≤ a) (hab : a ≤ b) (hb : b < n) (hl : 0 ≤ l ∧ l < 200) (q1 : 0 ≤ Q 1 ∧ Q 1 ≤ 6) (q2 : 0 ≤ Q 2 ∧ Q 2 ≤ 10000) (eQ0 : Q 0 = n) (lnr0 : y_LN D s0 a b (Q 1)) (hc0 : 0 ≤ c0 ∧ c0 ≤ a)
    (hG : G = y_gn D (y_me D tt n) a b (b + 1)) (hrest : rest = Q 2 - y_LG D a b (Q 1)) (hF : y_hid ((full = 1 ∧ (Q 3 = 1 ∧ 0 ≤ rest ∧ b < n - 1 ∧ 0 < G)) ∨ (full = 0 ∧ ¬ (Q 3 = 1 ∧ 0 ≤ rest ∧ b < n - 1 ∧ 0 < G)))) {k : z_M → z_O} {P : z_V → z_M → Prop}
    (hk : ∀ s' : z_M, y_UMs D (y_me D tt n) Q s' l a b c0 (b + 1) → s' 309 58 = c0 + y_ns D a (b + 1) → s' 3448 l = y_ns D a (b + 1) → s' 3449 l = y_pd D a b (Q 1) (b + 1) → (∀ x y : Int, ¬ y_lnw a (s0 3221 a) l c0 x y → s' x y = s0 x y) → z_T (k s') P) :
    ∀ (m F : Nat) (s : z_M) (x gc u : Int), (m : Int) = b + 1 - u → m < F → a ≤ u → x = y_cu D (y_me D tt n) Q a b u → y_hid (full = 1 → gc = y_gn D (y_me D tt n) a b u) → (0 ≤ gc ∧ gc ≤ u - a) → y_UMs D (y_me D tt n) Q s l a b c0 u → s 309 58 = c0 + y_ns D a u → s 3448 l = y_ns D a u → s 3449 l = y_pd D a b (Q 1) u → (∀ p q : Int, ¬ y_lnw a (s0 3221 a) l c0 p q → s p q = s0 p q) → z_T (fX12_laysLine_L169 fu 309 l b G rest full F s x gc u k) P := by
  intro m
  induction m with
  | zero =>
    intro F s x gc u h1 hF2 h3 hx hgc bgc ums e58 e48 e49 f
    obtain ⟨F, rfl⟩ : ∃ F2, F = F2 + 1 := ⟨F - 1, by omega⟩
    have eu : u = b + 1 := by omega
    subst eu
    refine T_of (fX12_laysLine_L169.eq_2 ..) ?_
    refine T_if1 (by omega) ?_
    exact hk s ums e58 e48 e49 f
  | succ m ih =>
    intro F s x gc u h1 hF2 h3 hx hgc bgc ums e58 e48 e49 f
    obtain ⟨F, rfl⟩ : ∃ F2, F = F2 + 1 := ⟨F - 1, by omega⟩
    have n2 : 0 ≤ n ∧ n ≤ 200 := by rw [← en]; exact mp0.1.1.1
    have hD : y_DF D n := by rw [← en]; exact mp0.1.2.2.2
    have hu : a ≤ u ∧ u ≤ b := by omega
    have mp := mp0.fr (fun p q w w2 => f p q (by omega))
    have lnr := lnr0.fr (s' := s) (fun p q w => f p q (by omega))
    have nsb := y_ns_b (D := D) hu.1
    have nss : y_ns D a (u + 1) = y_ns D a u + y_sdd D a u := y_suS hu.1
    have sd := y_sd01 (D := D) (a := a) (v := u)
    have e1 : ∀ v : Int, s 3221 v = s0 3221 v := fun v => f 3221 v (by omega)
    have e2 : ∀ v : Int, s 3222 v = s0 3222 v := fun v => f 3222 v (by omega)
    have fa : s0 3221 a ≤ s0 3221 u := by
      by_cases zz : a = u
      · rw [zz]; exact Int.le_refl _
      · have w1 := fm a u (by omega) (by omega) (by omega)
        have w2 := (mp0.1.1.2.1 a (by omega) (by omega)).2.1
        omega
    have go : ∀ s1 : z_M, y_MP D s1 → y_LN D s1 a b (Q 1) → (∀ p q : Int, ¬ (3452 + (c0 + y_ns D a u) = p ∨ (p = 309 ∧ q = 58) ∨ (p = 3448 ∧ q = l)) → s1 p q = s p q) → s1 309 58 = c0 + y_ns D a (u + 1) → s1 3448 l = y_ns D a (u + 1) → (y_sa D a u → y_BW D s1 (c0 + y_ns D a u) a b (Q 1) u) → z_T (fX12_laysLine_J192 fu s1 309 l b G rest x full gc u (fun w v7 v9 v10 => fX12_laysLine_L169 fu 309 l b G rest full F w v7 v9 v10 k) k) P := fun s1 mp1 ln1 f1 g58 g48 gbw => by
      refine em_ln192 hfu mp1 ((f1 312 7 (by omega)).trans ((f 312 7 (by omega)).trans eT)) ((f1 309 20 (by omega)).trans ((f 309 20 (by omega)).trans en)) hw ha hb hu hl q1 q2 eQ0 ln1 hx hG hrest (y_show hF) (y_show hgc) (by omega) ((f1 3449 l (by omega)).trans e49) (fun s2 gc2 w1 w2 w3 w4 w5 => ?_)
      have e3 : s1 3221 u = s0 3221 u := (f1 3221 u (by omega)).trans (e1 u)
      have e4 : s1 3222 u = s0 3222 u := (f1 3222 u (by omega)).trans (e2 u)
      rw [e3, e4] at w5
      refine ih F s2 _ gc2 (u + 1) (by omega) (by omega) (by omega) rfl (y_hide w1) (by omega) (fun v p q => ?_) ((w5 309 58 (by omega)).trans g58) ((w5 3448 l (by omega)).trans g48) w4 (fun p q w => (w5 p q (by omega)).trans ((f1 p q (by omega)).trans (f p q w)))
      by_cases zz : v = u
      · rw [zz]
        exact ⟨w3, fun sa => (gbw sa).fr (fun j => w5 _ j (by omega))⟩
      · obtain ⟨z1, z2⟩ := ums v p (by omega)
        have d := fm v u (by omega) (by omega) (by omega)
        have nv := y_ns_b (D := D) (a := a) (u := v) p
        have nvs : y_ns D a (v + 1) = y_ns D a v + y_sdd D a v := y_suS p
        have nvl := y_ns_le (D := D) (a := a) (u := v + 1) (v := u) (by omega) (by omega)
        refine ⟨(z1.fr (fun p q w => f1 p q (by omega)) (fun p w => f1 p v (by omega)) (fun i w6 w7 => f1 3443 i (by omega))).fr (fun p q w => w5 p q (by omega)) (fun p w => w5 p v (by omega)) (fun i w6 w7 => ?_), fun sa => ?_⟩
        · rw [f1 3221 v (by omega), e1] at w6 w7
          rw [f1 3222 v (by omega), e2] at w7
          exact w5 3443 i (by omega)
        · have sv : y_sdd D a v = 1 := by unfold y_sdd; rw [if_pos sa]
          exact ((z2 sa).fr (fun j => f1 _ j (by omega))).fr (fun j => w5 _ j (by omega))
    clear ih ums hk
    refine T_of (fX12_laysLine_L169.eq_2 ..) ?_
    refine T_if0 (by omega) ?_
    refine T_if1 v_ob309 ?_
    refine T_let 3229 v_gm30 ?_
    refine T_if1 (v_x3229 (by omega)) ?_
    refine T_let (if y_sa D a u then y_e D a b u - u + 1 else 0) ((lnr.1 u hu.1 hu.2).2.2.2.1) ?_
    refine T_ite (fun hs => ?_) (fun hs => ?_)
    · have nsa : ¬ y_sa D a u := fun sa => by
        have w := y_e_b (D := D) (a := a) (b := b) (b - u).toNat u (by omega)
        rw [if_pos sa] at hs; omega
      have sd0 : y_sdd D a u = 0 := by unfold y_sdd; rw [if_neg nsa]
      exact go s mp lnr (fun _ _ _ => rfl) (by rw [e58, nss]; omega) (by rw [e48, nss]; omega) (fun sa => by omega)
    · have sa : y_sa D a u := by
        by_cases zz : y_sa D a u
        · exact zz
        · rw [if_neg zz] at hs; omega
      have sd1 : y_sdd D a u = 1 := by unfold y_sdd; rw [if_pos sa]
      refine T_if1 v_ob309 ?_
      refine T_useN (em_addsBlock (k := c0 + y_ns D a u) (c := y_ns D a u) hD ha hb n2.2 hu hl q1 lnr sa e58 (by omega) e48 (by omega)) (fun v9 s2 hq => ?_)
      obtain ⟨rfl, bw, g58, g48, f2⟩ := hq
      refine T_vN ?_
      have mp2 := mp.fr (fun p q w w2 => f2 p q (by omega))
      have ln2 := lnr.fr (s' := s2) (fun p q w => f2 p q (by omega))
      exact go s2 mp2 ln2 (fun p q w => f2 p q (by omega)) (by rw [g58, nss]; omega) (by rw [g48, nss]; omega) (fun _ => bw)
/-- a line that was laid out, its blocks from c0 on -/
def y_LMl (D : z_M) (E Q : Int → Int) (s : z_M) (l a b c0 : Int) : Prop := (s 3446 l = y_LG D a b (Q 1) ∧ s 3447 l = y_gn D E a b (b + 1) ∧ s 3448 l = y_ns D a (b + 1) ∧ s 3449 l = y_pd D a b (Q 1) (b + 1) ∧ s 3450 l = y_hg D a b) ∧ y_UMs D E Q s l a b c0 (b + 1)
/-- cells that laying out a line writes on -/
abbrev y_lmw (a fa l c0 x y : Int) : Prop := y_lnw a fa l c0 x y ∨ (3224 ≤ x ∧ x ≤ 3233) ∨ (x = 309 ∧ y = 35) ∨ ((x = 3446 ∨ x = 3447 ∨ x = 3450) ∧ y = l)
theorem em_laysLine {fu : Nat} (hfu : 8589934592 ≤ fu) {D s : z_M} {Q : Int → Int} {tt n : Int} (mp : y_MP D s) (fm : y_FM s) (eT : s 312 7 = tt) (en : s 309 20 = n) (hw : ∀ u : Int, 0 ≤ u → u < n → 1 ≤ D 1 u) {l a b c0 : Int} (ea : s 3438 l = a) (eb : s 3438 (l + 1) = b + 1) (ha : 0 ≤ a) (hab : a ≤ b) (hb : b < n) (hl : 0 ≤ l ∧ l < 200) (q1 : 0 ≤ Q 1 ∧ Q 1 ≤ 6) (q2 : 0 ≤ Q 2 ∧ Q 2 ≤ 10000) (eQ0 : Q 0 = n) (eQ1 : s 312 2 = Q 1) (eQ2 : s 312 0 = Q 2) (eQ3 : s 312 4 = Q 3) (hc0 : 0 ≤ c0 ∧ c0 ≤ a) (e58 : s 309 58 = c0) :
    z_T (fX12_laysLine fu s 309 l) (fun v s' => v = vN ∧ y_LMl D (y_me D tt n) Q s' l a b c0 ∧ s' 309 58 = c0 + y_ns D a (b + 1) ∧ y_MP D s' ∧ ∀ x y : Int, ¬ y_lmw a (s 3221 a) l c0 x y → s' x y = s x y) := by
  have n2 : 0 ≤ n ∧ n ≤ 200 := by rw [← en]; exact mp.1.1.1
  have hD : y_DF D n := by rw [← en]; exact mp.1.2.2.2
  have lgb := y_LG_b hD ha hb n2.2 q1
  have gnb := y_gn_b (D := D) (E := y_me D tt n) (a := a) (b := b) (u := b + 1) (by omega)
  have fin : ∀ s1 : z_M, y_MP D s1 → y_LN D s1 a b (Q 1) → (∀ x y : Int, ¬ y_lmw a (s 3221 a) l c0 x y → s1 x y = s x y) → s1 309 58 = c0 → s1 3446 l = y_LG D a b (Q 1) → s1 3447 l = y_gn D (y_me D tt n) a b (b + 1) → s1 3448 l = 0 → s1 3449 l = 0 → s1 3450 l = y_hg D a b → ∀ full : Int, y_hid ((full = 1 ∧ (Q 3 = 1 ∧ 0 ≤ Q 2 - y_LG D a b (Q 1) ∧ b < n - 1 ∧ 0 < y_gn D (y_me D tt n) a b (b + 1))) ∨ (full = 0 ∧ ¬ (Q 3 = 1 ∧ 0 ≤ Q 2 - y_LG D a b (Q 1) ∧ b < n - 1 ∧ 0 < y_gn D (y_me D tt n) a b (b + 1)))) →
      z_T (fX12_laysLine_J161 fu s1 309 l a b (y_gn D (y_me D tt n) a b (b + 1)) (Q 2 - y_LG D a b (Q 1)) 0 full) (fun v s' => v = vN ∧ y_LMl D (y_me D tt n) Q s' l a b c0 ∧ s' 309 58 = c0 + y_ns D a (b + 1) ∧ y_MP D s' ∧ ∀ x y : Int, ¬ y_lmw a (s 3221 a) l c0 x y → s' x y = s x y) := fun s1 mp1 ln1 f1 g58 g46 g47 g48 g49 g50 full hF => by
    refine T_of (fX12_laysLine_J161.eq_1 ..) ?_
    have e1 : s1 3221 = s 3221 := funext fun v => f1 3221 v (by omega)
    have e2 : s1 3222 = s 3222 := funext fun v => f1 3222 v (by omega)
    refine em_lineL hfu mp1 (fun v u p q r => by rw [e1, e2]; exact fm v u p q (by rw [← f1 309 20 (by omega)]; exact r)) ((f1 312 7 (by omega)).trans eT) ((f1 309 20 (by omega)).trans en) hw ha hab hb hl q1 q2 eQ0 ln1 hc0 rfl rfl hF (fun s2 w1 w2 w3 w4 w5 => ?_) (b + 1 - a).toNat fu s1 0 0 a (by omega) (by omega) (Int.le_refl _) (by unfold y_cu; rw [y_su0]) (y_hide (fun _ => by unfold y_gn; rw [y_su0])) (by omega) (fun v p q => by omega) (by unfold y_ns; rw [y_su0, g58]; omega) (by unfold y_ns; rw [y_su0, g48]) (by rw [g49]; unfold y_pd; rw [show a - a = 0 by omega]; rfl) (fun _ _ _ => rfl)
    rw [e1] at w5
    exact T_ret ⟨rfl, ⟨⟨(w5 3446 l (by omega)).trans g46, (w5 3447 l (by omega)).trans g47, w3, w4, (w5 3450 l (by omega)).trans g50⟩, w1⟩, w2, mp1.fr (fun p q w w6 => w5 p q (by omega)), fun x y w => (w5 x y (by omega)).trans (f1 x y w)⟩
  refine T_of (fX12_laysLine.eq_1 ..) ?_
  refine T_if1 v_ob309 ?_
  refine T_let 3438 v_gm45 ?_
  refine T_if1 (v_x3438 (by omega)) ?_
  refine T_let a ea ?_
  refine T_if1 v_ob309 ?_
  refine T_let 3438 v_gm45 ?_
  refine T_let (l + 1) (v_wid (by omega)) ?_
  refine T_if1 (v_x3438 (by omega)) ?_
  refine T_let (b + 1) eb ?_
  refine T_let b (by rw [v_wid (by omega)]; omega) ?_
  refine T_if1 v_ob309 ?_
  refine T_useI (em_lays hfu mp.1 (ln := Q 1) ⟨ha, hab⟩ (by omega) eQ1 q1) (fun v9 s1 hq => ?_)
  obtain ⟨rfl, ln1, g1⟩ := hq
  refine T_vI ?_
  have f1 : ∀ x y : Int, ¬ ((3224 ≤ x ∧ x ≤ 3233) ∨ (x = 309 ∧ y = 35)) → s1 x y = s x y := fun x y w => g1 x y (fun z => w (Or.inl z)) (fun z => w (Or.inr z))
  clear g1
  have fr1 : ∀ x y : Int, ¬ y_lmw a (s 3221 a) l c0 x y → s1 x y = s x y := fun x y w => f1 x y (by omega)
  have mp2 := mp.fr (fun p q w w2 => f1 p q (by omega))
  have k583 : s1 309 58 = c0 := (f1 309 58 (by omega)).trans e58
  refine T_if1 v_ob309 ?_
  refine T_let 312 v_gm9 ?_
  refine T_if1 (v_x312 (by omega)) ?_
  refine T_let (Q 2) ((fr1 312 0 (by omega)).trans eQ2) ?_
  refine T_let ((Q 2) - (y_LG D a b (Q 1))) (v_wid (by omega)) ?_
  refine T_of (em_gapsL hfu mp2 ((fr1 312 7 (by omega)).trans eT) ((fr1 309 20 (by omega)).trans en) hw ha hb (fun v p q => (ln1.1 v p q).1.1) (b + 1 - a).toNat fu 0 a (by omega) (by omega) (Int.le_refl _) (by unfold y_gn; rw [y_su0])) ?_
  refine T_if1 v_ob309 ?_
  refine T_let 3446 v_gm53 ?_
  refine T_if1 (v_x3446 (by omega)) ?_
  refine T_upG (fun sx4 a5 f6 => ?_)
  have fr7 : ∀ x y : Int, ¬ y_lmw a (s 3221 a) l c0 x y → sx4 x y = s x y := fun x y w => (f6 x y (by omega)).trans (fr1 x y w)
  have mp8 := mp2.fr (fun p q w w2 => f6 p q (by omega))
  have ln9 := ln1.fr (s' := sx4) (fun p q w => f6 p q (by omega))
  have k4610 : sx4 3446 l = y_LG D a b (Q 1) := a5
  have k5811 : sx4 309 58 = c0 := (f6 309 58 (by omega)).trans k583
  refine T_if1 v_ob309 ?_
  refine T_let 3447 v_gm54 ?_
  refine T_if1 (v_x3447 (by omega)) ?_
  refine T_upG (fun sx12 a13 f14 => ?_)
  have fr15 : ∀ x y : Int, ¬ y_lmw a (s 3221 a) l c0 x y → sx12 x y = s x y := fun x y w => (f14 x y (by omega)).trans (fr7 x y w)
  have mp16 := mp8.fr (fun p q w w2 => f14 p q (by omega))
  have ln17 := ln9.fr (s' := sx12) (fun p q w => f14 p q (by omega))
  have k4618 : sx12 3446 l = y_LG D a b (Q 1) := (f14 3446 l (by omega)).trans k4610
  have k4719 : sx12 3447 l = y_gn D (y_me D tt n) a b (b + 1) := a13
  have k5820 : sx12 309 58 = c0 := (f14 309 58 (by omega)).trans k5811
  refine T_if1 v_ob309 ?_
  refine T_let 3448 v_gm55 ?_
  refine T_if1 (v_x3448 (by omega)) ?_
  refine T_upG (fun sx21 a22 f23 => ?_)
  have fr24 : ∀ x y : Int, ¬ y_lmw a (s 3221 a) l c0 x y → sx21 x y = s x y := fun x y w => (f23 x y (by omega)).trans (fr15 x y w)
  have mp25 := mp16.fr (fun p q w w2 => f23 p q (by omega))
  have ln26 := ln17.fr (s' := sx21) (fun p q w => f23 p q (by omega))
  have k4627 : sx21 3446 l = y_LG D a b (Q 1) := (f23 3446 l (by omega)).trans k4618
  have k4728 : sx21 3447 l = y_gn D (y_me D tt n) a b (b + 1) := (f23 3447 l (by omega)).trans k4719
  have k4829 : sx21 3448 l = 0 := a22
  have k5830 : sx21 309 58 = c0 := (f23 309 58 (by omega)).trans k5820
  refine T_if1 v_ob309 ?_
  refine T_let 3449 v_gm56 ?_
  refine T_if1 (v_x3449 (by omega)) ?_
  refine T_upG (fun sx31 a32 f33 => ?_)
  have fr34 : ∀ x y : Int, ¬ y_lmw a (s 3221 a) l c0 x y → sx31 x y = s x y := fun x y w => (f33 x y (by omega)).trans (fr24 x y w)
  have mp35 := mp25.fr (fun p q w w2 => f33 p q (by omega))
  have ln36 := ln26.fr (s' := sx31) (fun p q w => f33 p q (by omega))
  have k4637 : sx31 3446 l = y_LG D a b (Q 1) := (f33 3446 l (by omega)).trans k4627
  have k4738 : sx31 3447 l = y_gn D (y_me D tt n) a b (b + 1) := (f33 3447 l (by omega)).trans k4728
  have k4839 : sx31 3448 l = 0 := (f33 3448 l (by omega)).trans k4829
  have k4940 : sx31 3449 l = 0 := a32
  have k5841 : sx31 309 58 = c0 := (f33 309 58 (by omega)).trans k5830
  refine T_if1 v_ob309 ?_
  refine T_let 3450 v_gm57 ?_
  refine T_if1 v_ob309 ?_
  refine T_let (y_hg D a b) ln36.2 ?_
  have fin2 : z_T (fX12_laysLine_J125 fu sx31 309 l a b (y_gn D (y_me D tt n) a b (b + 1)) (Q 2 - y_LG D a b (Q 1)) 0 3450 l (y_hg D a b)) (fun v s' => v = vN ∧ y_LMl D (y_me D tt n) Q s' l a b c0 ∧ s' 309 58 = c0 + y_ns D a (b + 1) ∧ y_MP D s' ∧ ∀ x y : Int, ¬ y_lmw a (s 3221 a) l c0 x y → s' x y = s x y) := by
    refine T_of (fX12_laysLine_J125.eq_1 ..) ?_
    refine T_if1 (v_x3450 (by omega)) ?_
    refine T_upG (fun sx42 a43 f44 => ?_)
    have fr45 : ∀ x y : Int, ¬ y_lmw a (s 3221 a) l c0 x y → sx42 x y = s x y := fun x y w => (f44 x y (by omega)).trans (fr34 x y w)
    have mp46 := mp35.fr (fun p q w w2 => f44 p q (by omega))
    have ln47 := ln36.fr (s' := sx42) (fun p q w => f44 p q (by omega))
    have k4648 : sx42 3446 l = y_LG D a b (Q 1) := (f44 3446 l (by omega)).trans k4637
    have k4749 : sx42 3447 l = y_gn D (y_me D tt n) a b (b + 1) := (f44 3447 l (by omega)).trans k4738
    have k4850 : sx42 3448 l = 0 := (f44 3448 l (by omega)).trans k4839
    have k4951 : sx42 3449 l = 0 := (f44 3449 l (by omega)).trans k4940
    have k5052 : sx42 3450 l = y_hg D a b := a43
    have k5853 : sx42 309 58 = c0 := (f44 309 58 (by omega)).trans k5841
    refine T_if1 v_ob309 ?_
    refine T_let 312 v_gm9 ?_
    refine T_if1 (v_x312 (by omega)) ?_
    refine T_let (Q 3) ((fr45 312 4 (by omega)).trans eQ3) ?_
    refine T_ite (fun h54 => ?_) (fun h54 => ?_)
    · refine T_of (fX12_laysLine_J160.eq_1 ..) ?_
      exact fin _ mp46 ln47 fr45 k5853 k4648 k4749 k4850 k4951 k5052 0 (y_hide (by omega))
    · refine T_ite (fun h55 => ?_) (fun h55 => ?_)
      · refine T_of (fX12_laysLine_J160.eq_1 ..) ?_
        exact fin _ mp46 ln47 fr45 k5853 k4648 k4749 k4850 k4951 k5052 0 (y_hide (by omega))
      · refine T_if1 v_ob309 ?_
        refine T_let n ((fr45 309 20 (by omega)).trans en) ?_
        refine T_let (n - 1) (v_wid (by omega)) ?_
        refine T_ite (fun h56 => ?_) (fun h56 => ?_)
        · refine T_of (fX12_laysLine_J160.eq_1 ..) ?_
          exact fin _ mp46 ln47 fr45 k5853 k4648 k4749 k4850 k4951 k5052 0 (y_hide (by omega))
        · refine T_ite (fun h57 => ?_) (fun h57 => ?_)
          · refine T_of (fX12_laysLine_J160.eq_1 ..) ?_
            exact fin _ mp46 ln47 fr45 k5853 k4648 k4749 k4850 k4951 k5052 0 (y_hide (by omega))
          · exact fin _ mp46 ln47 fr45 k5853 k4648 k4749 k4850 k4951 k5052 1 (y_hide (by omega))
  exact T_ite (fun q0 => by rw [q0] at fin2; exact fin2) (fun q0 => by rw [show y_hg D a b = 1 by rcases y_hg_01 (D := D) (a := a) (b := b) with q | q <;> omega] at fin2; exact fin2)
