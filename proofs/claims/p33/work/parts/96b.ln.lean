/-! the reference's layout: the units of a line, all lines -/
/-- a unit's rows, the reference's -/
def y_UM (D : z_M) (E Q : Int → Int) (s : z_M) (l a b u : Int) : Prop := s 3441 u = l ∧ s 3442 u = y_pl D E Q a b u ∧ s 3445 u = y_w D a b u ∧ s 3444 u = y_sA D a b u + y_sB D a b u ∧ ∀ i : Int, s 3221 u ≤ i → i < s 3221 u + s 3222 u → s 3443 i = y_pl D E Q a b u + y_sm2 s u i
theorem y_UM.fr {D : z_M} {E Q : Int → Int} {s s' : z_M} {l a b u : Int} (h : y_UM D E Q s l a b u) (f : ∀ x y : Int, y_u6 x → s' x y = s x y) (g : ∀ x : Int, x = 3441 ∨ x = 3442 ∨ x = 3444 ∨ x = 3445 → s' x u = s x u) (k : ∀ i : Int, s 3221 u ≤ i → i < s 3221 u + s 3222 u → s' 3443 i = s 3443 i) : y_UM D E Q s' l a b u := by
  obtain ⟨h1, h2, h3, h4, h5⟩ := h
  refine ⟨(g _ (by decide)).trans h1, (g _ (by decide)).trans h2, (g _ (by decide)).trans h3, (g _ (by decide)).trans h4, fun i p q => ?_⟩
  rw [f 3221 u (by decide)] at p q
  rw [f 3222 u (by decide)] at q
  rw [k i p q, h5 i p q, y_sm2_fr f]
theorem y_xv0 {D : z_M} {E Q : Int → Int} {a b u : Int} (h : y_rs D Q a b = 0) (hu : a ≤ u) : y_xv D E Q a b u = 0 := by
  have n := y_gn_b (D := D) (E := E) (a := a) (b := b) (u := u) hu
  unfold y_xv
  by_cases g : y_gq D E a b u = 1
  · rw [if_pos g, h, Int.zero_ediv, Int.zero_emod, if_neg (by omega)]; rfl
  · rw [if_neg g]
theorem y_pd_s {D : z_M} {A B ln u : Int} (h : A ≤ u) : y_pd D A B ln (u + 1) = y_pd D A B ln u + (y_pA D A B ln u + y_pB D A B ln u) := y_suS (f := fun u => y_pA D A B ln u + y_pB D A B ln u) h
theorem y_pd_r {D : z_M} {n a b ln u : Int} (d : y_DF D n) (hA : 0 ≤ a) (hB : b < n) (hn : n ≤ 200) (hl : 0 ≤ ln ∧ ln ≤ 6) (hu : a ≤ u ∧ u ≤ b + 1) : 0 ≤ y_pd D a b ln u ∧ y_pd D a b ln u ≤ 4000000 := by
  have r := y_su_r (f := fun u => y_pA D a b ln u + y_pB D a b ln u) (a := a) (u := u) (m := 20000) (by decide) (fun i p q => by
    have w := y_pAB_r (ln := ln) d hA hB hn (u := i) ⟨p, by omega⟩ hl
    show 0 ≤ y_pA D a b ln i + y_pB D a b ln i ∧ y_pA D a b ln i + y_pB D a b ln i ≤ 20000
    omega) hu.1 (by omega)
  have e : y_pd D a b ln u = y_su (fun u => y_pA D a b ln u + y_pB D a b ln u) a u := rfl
  rw [e]; omega
theorem em_ln192 {fu : Nat} (hfu : 8589934592 ≤ fu) {D s : z_M} {Q : Int → Int} {tt n : Int} (mp : y_MP D s) (eT : s 312 7 = tt) (en : s 309 20 = n) (hw : ∀ u : Int, 0 ≤ u → u < n → 1 ≤ D 1 u) {l a b u x G rest full gc : Int} (ha : 0 ≤ a) (hb : b < n) (hu : a ≤ u ∧ u ≤ b) (hl : 0 ≤ l ∧ l < 200) (q1 : 0 ≤ Q 1 ∧ Q 1 ≤ 6) (q2 : 0 ≤ Q 2 ∧ Q 2 ≤ 10000) (eQ0 : Q 0 = n) (lnr : y_LN D s a b (Q 1))
    (hx : x = y_cu D (y_me D tt n) Q a b u) (hG : G = y_gn D (y_me D tt n) a b (b + 1)) (hrest : rest = Q 2 - y_LG D a b (Q 1)) (hfull : (full = 1 ∧ (Q 3 = 1 ∧ 0 ≤ rest ∧ b < n - 1 ∧ 0 < G)) ∨ (full = 0 ∧ ¬ (Q 3 = 1 ∧ 0 ≤ rest ∧ b < n - 1 ∧ 0 < G))) (hgc : full = 1 → gc = y_gn D (y_me D tt n) a b u) (bgc : 0 ≤ gc ∧ gc ≤ 1000) (epd : s 3449 l = y_pd D a b (Q 1) u)
    {r : z_M → Int → Int → Int → z_O} {k : z_M → z_O} {P : z_V → z_M → Prop}
    (hr : ∀ (s' : z_M) (gc' : Int), (full = 1 → gc' = y_gn D (y_me D tt n) a b (u + 1)) → (0 ≤ gc' ∧ gc' ≤ gc + 1) → y_UM D (y_me D tt n) Q s' l a b u → s' 3449 l = y_pd D a b (Q 1) (u + 1) → (∀ p q : Int, ¬ (((p = 3441 ∨ p = 3442 ∨ p = 3444 ∨ p = 3445) ∧ q = u) ∨ (p = 3443 ∧ s 3221 u ≤ q ∧ q < s 3221 u + s 3222 u) ∨ (p = 3449 ∧ q = l)) → s' p q = s p q) → z_T (r s' (y_cu D (y_me D tt n) Q a b (u + 1)) gc' (u + 1)) P) :
    z_T (fX12_laysLine_J192 fu s 309 l b G rest x full gc u r k) P := by
  have n2 : 0 ≤ n ∧ n ≤ 200 := by rw [← en]; exact mp.1.1.1
  have hD : y_DF D n := by rw [← en]; exact mp.1.2.2.2
  have u2 : 0 ≤ u ∧ u < 200 := by omega
  have plb := y_pl_b (E := y_me D tt n) hD ha hb n2.2 q1 q2.2 hu
  have cub := y_cu_b (E := y_me D tt n) hD ha hb n2.2 q1 q2.2 (u := u + 1) ⟨by omega, by omega⟩
  have cub0 := y_cu_b (E := y_me D tt n) hD ha hb n2.2 q1 q2.2 (u := u) ⟨by omega, by omega⟩
  have cus := y_cu_s (D := D) (E := y_me D tt n) (Q := Q) (b := b) hu.1
  have wb := y_w_b hD (a := a) (b := b) (u := u) ⟨by omega, by omega⟩
  have sb := y_sAB_b (D := D) (a := a) (b := b) (u := u)
  have pb := y_pAB_r (ln := Q 1) hD ha hb n2.2 hu q1
  have pdb := y_pd_r (ln := Q 1) hD ha hb n2.2 q1 (u := u) ⟨by omega, by omega⟩
  have pds := y_pd_s (D := D) (B := b) (ln := Q 1) hu.1
  have gnb := y_gn_b (D := D) (E := y_me D tt n) (a := a) (b := b) (u := u) hu.1
  have gns : y_gn D (y_me D tt n) a b (u + 1) = y_gn D (y_me D tt n) a b u + y_gq D (y_me D tt n) a b u := y_suS hu.1
  have gnl := y_gn_le (D := D) (E := y_me D tt n) (a := a) (b := b) (u := u + 1) (v := b + 1) (by omega) (by omega)
  have lgb := y_LG_b hD ha hb n2.2 q1
  have g01 := y_gq01 (D := D) (E := y_me D tt n) (a := a) (b := b) (u := u)
  have plu : y_pl D (y_me D tt n) Q a b u = y_cu D (y_me D tt n) Q a b u + y_pA D a b (Q 1) u + y_sA D a b u := rfl
  obtain ⟨⟨r4, r5, r6⟩, r7, r8, _⟩ := lnr.1 u hu.1 hu.2
  have rw4 : ∀ v : Int, a ≤ v → v ≤ b → s 3224 v = y_w D a b v := fun v p q => (lnr.1 v p q).1.1
  subst hx
  have hF := y_hide hfull
  have hC := y_hide hgc
  clear lnr hfull hgc
  refine T_of (fX12_laysLine_J192.eq_1 ..) ?_
  refine T_if1 v_ob309 ?_
  refine T_let 3227 v_gm28 ?_
  refine T_if1 (v_x3227 (by omega)) ?_
  refine T_let (y_pA D a b (Q 1) u) r7 ?_
  refine T_if1 v_ob309 ?_
  refine T_let 3225 v_gm26 ?_
  refine T_if1 (v_x3225 (by omega)) ?_
  refine T_let (y_sA D a b u) r5 ?_
  refine T_let ((y_pA D a b (Q 1) u) + (y_sA D a b u)) (v_wid (by omega)) ?_
  refine T_let (y_pl D (y_me D tt n) Q a b u) (by rw [v_wid (by omega)]; omega) ?_
  refine T_if1 v_ob309 ?_
  refine T_let 3441 v_gm48 ?_
  refine T_if1 (v_x3441 (by omega)) ?_
  refine T_upG (fun sx1 a2 f3 => ?_)
  have fr4 : ∀ p q : Int, ¬ (((p = 3441 ∨ p = 3442 ∨ p = 3444 ∨ p = 3445) ∧ q = u) ∨ (p = 3443 ∧ s 3221 u ≤ q ∧ q < s 3221 u + s 3222 u) ∨ (p = 3449 ∧ q = l)) → sx1 p q = s p q := fun p q w => f3 p q (by omega)
  have mp5 := mp.fr (fun p q w w2 => f3 p q (by omega))
  have k416 : sx1 3441 u = l := a2
  have k497 : sx1 3449 l = y_pd D a b (Q 1) u := (f3 3449 l (by omega)).trans epd
  refine T_if1 v_ob309 ?_
  refine T_let 3442 v_gm49 ?_
  refine T_if1 (v_x3442 (by omega)) ?_
  refine T_upG (fun sx8 a9 f10 => ?_)
  have fr11 : ∀ p q : Int, ¬ (((p = 3441 ∨ p = 3442 ∨ p = 3444 ∨ p = 3445) ∧ q = u) ∨ (p = 3443 ∧ s 3221 u ≤ q ∧ q < s 3221 u + s 3222 u) ∨ (p = 3449 ∧ q = l)) → sx8 p q = s p q := fun p q w => (f10 p q (by omega)).trans (fr4 p q w)
  have mp12 := mp5.fr (fun p q w w2 => f10 p q (by omega))
  have k4113 : sx8 3441 u = l := (f10 3441 u (by omega)).trans k416
  have k4214 : sx8 3442 u = y_pl D (y_me D tt n) Q a b u := a9
  have k4915 : sx8 3449 l = y_pd D a b (Q 1) u := (f10 3449 l (by omega)).trans k497
  refine T_if1 v_ob309 ?_
  refine T_let 3444 v_gm51 ?_
  refine T_if1 v_ob309 ?_
  refine T_let 3225 v_gm26 ?_
  refine T_if1 (v_x3225 (by omega)) ?_
  refine T_let (y_sA D a b u) ((fr11 3225 u (by omega)).trans r5) ?_
  refine T_if1 v_ob309 ?_
  refine T_let 3226 v_gm27 ?_
  refine T_if1 (v_x3226 (by omega)) ?_
  refine T_let (y_sB D a b u) ((fr11 3226 u (by omega)).trans r6) ?_
  refine T_let ((y_sA D a b u) + (y_sB D a b u)) (v_wid (by omega)) ?_
  refine T_if1 (v_x3444 (by omega)) ?_
  refine T_upG (fun sx16 a17 f18 => ?_)
  have fr19 : ∀ p q : Int, ¬ (((p = 3441 ∨ p = 3442 ∨ p = 3444 ∨ p = 3445) ∧ q = u) ∨ (p = 3443 ∧ s 3221 u ≤ q ∧ q < s 3221 u + s 3222 u) ∨ (p = 3449 ∧ q = l)) → sx16 p q = s p q := fun p q w => (f18 p q (by omega)).trans (fr11 p q w)
  have mp20 := mp12.fr (fun p q w w2 => f18 p q (by omega))
  have k4121 : sx16 3441 u = l := (f18 3441 u (by omega)).trans k4113
  have k4222 : sx16 3442 u = y_pl D (y_me D tt n) Q a b u := (f18 3442 u (by omega)).trans k4214
  have k4423 : sx16 3444 u = y_sA D a b u + y_sB D a b u := a17
  have k4924 : sx16 3449 l = y_pd D a b (Q 1) u := (f18 3449 l (by omega)).trans k4915
  refine T_if1 v_ob309 ?_
  refine T_let 3445 v_gm52 ?_
  refine T_if1 v_ob309 ?_
  refine T_let 3224 v_gm25 ?_
  refine T_if1 (v_x3224 (by omega)) ?_
  refine T_let (y_w D a b u) ((fr19 3224 u (by omega)).trans r4) ?_
  refine T_if1 (v_x3445 (by omega)) ?_
  refine T_upG (fun sx25 a26 f27 => ?_)
  have fr28 : ∀ p q : Int, ¬ (((p = 3441 ∨ p = 3442 ∨ p = 3444 ∨ p = 3445) ∧ q = u) ∨ (p = 3443 ∧ s 3221 u ≤ q ∧ q < s 3221 u + s 3222 u) ∨ (p = 3449 ∧ q = l)) → sx25 p q = s p q := fun p q w => (f27 p q (by omega)).trans (fr19 p q w)
  have mp29 := mp20.fr (fun p q w w2 => f27 p q (by omega))
  have k4130 : sx25 3441 u = l := (f27 3441 u (by omega)).trans k4121
  have k4231 : sx25 3442 u = y_pl D (y_me D tt n) Q a b u := (f27 3442 u (by omega)).trans k4222
  have k4432 : sx25 3444 u = y_sA D a b u + y_sB D a b u := (f27 3444 u (by omega)).trans k4423
  have k4533 : sx25 3445 u = y_w D a b u := a26
  have k4934 : sx25 3449 l = y_pd D a b (Q 1) u := (f27 3449 l (by omega)).trans k4924
  refine T_if1 v_ob309 ?_
  refine T_let 3221 v_gm22 ?_
  refine T_if1 (v_x3221 (by omega)) ?_
  refine T_let (s 3221 u) (fr28 3221 u (by omega)) ?_
  have mpr : y_Rw sx25 := mp29.1.1
  have z1 : sx25 3221 u = s 3221 u := fr28 3221 u (by omega)
  have z2 : sx25 3222 u = s 3222 u := fr28 3222 u (by omega)
  have rwu := mpr.2.1 u u2.1 (by rw [fr28 309 20 (by omega), en]; omega)
  rw [z1, z2] at rwu
  have fa : ∀ p q : Int, y_u6 p → sx25 p q = s p q := fun p q w => fr28 p q (by omega)
  refine em_sgL (s0 := sx25) (u := u) (n := n) (x := y_pl D (y_me D tt n) Q a b u) mpr ((fr28 309 20 (by omega)).trans en) ⟨u2.1, by omega⟩ ⟨plb.1, by omega⟩ (fun sx35 sg0 f36 => ?_) (s 3222 u).toNat fu _ _ (s 3221 u) (by rw [z1, z2]; omega) (by omega) (by rw [z1]; exact Int.le_refl _) (by unfold y_sm2; rw [z1, y_su0]; split <;> omega) (fun j p q => by rw [z1] at p; omega) (fun _ _ _ => rfl)
  rw [z1, z2, y_sm2_fr fa] at sg0
  rw [z1, z2] at f36
  have fr37 : ∀ p q : Int, ¬ (((p = 3441 ∨ p = 3442 ∨ p = 3444 ∨ p = 3445) ∧ q = u) ∨ (p = 3443 ∧ s 3221 u ≤ q ∧ q < s 3221 u + s 3222 u) ∨ (p = 3449 ∧ q = l)) → sx35 p q = s p q := fun p q w => (f36 p q (by omega)).trans (fr28 p q w)
  have mp38 := mp29.fr (fun p q w w2 => f36 p q (by omega))
  have k4139 : sx35 3441 u = l := (f36 3441 u (by omega)).trans k4130
  have k4240 : sx35 3442 u = y_pl D (y_me D tt n) Q a b u := (f36 3442 u (by omega)).trans k4231
  have k4441 : sx35 3444 u = y_sA D a b u + y_sB D a b u := (f36 3444 u (by omega)).trans k4432
  have k4542 : sx35 3445 u = y_w D a b u := (f36 3445 u (by omega)).trans k4533
  have k4943 : sx35 3449 l = y_pd D a b (Q 1) u := (f36 3449 l (by omega)).trans k4934
  refine T_if1 v_ob309 ?_
  refine T_let 3449 v_gm56 ?_
  refine T_if1 (v_x3449 (by omega)) ?_
  refine T_let (y_pd D a b (Q 1) u) k4943 ?_
  refine T_if1 v_ob309 ?_
  refine T_let 3227 v_gm28 ?_
  refine T_if1 (v_x3227 (by omega)) ?_
  refine T_let (y_pA D a b (Q 1) u) ((fr37 3227 u (by omega)).trans r7) ?_
  refine T_if1 v_ob309 ?_
  refine T_let 3228 v_gm29 ?_
  refine T_if1 (v_x3228 (by omega)) ?_
  refine T_let (y_pB D a b (Q 1) u) ((fr37 3228 u (by omega)).trans r8) ?_
  refine T_let ((y_pA D a b (Q 1) u) + (y_pB D a b (Q 1) u)) (v_wid (by omega)) ?_
  refine T_let ((y_pd D a b (Q 1) u) + ((y_pA D a b (Q 1) u) + (y_pB D a b (Q 1) u))) (v_wid (by omega)) ?_
  refine T_if1 (v_x3449 (by omega)) ?_
  refine T_upG (fun sx44 a45 f46 => ?_)
  have fr47 : ∀ p q : Int, ¬ (((p = 3441 ∨ p = 3442 ∨ p = 3444 ∨ p = 3445) ∧ q = u) ∨ (p = 3443 ∧ s 3221 u ≤ q ∧ q < s 3221 u + s 3222 u) ∨ (p = 3449 ∧ q = l)) → sx44 p q = s p q := fun p q w => (f46 p q (by omega)).trans (fr37 p q w)
  have mp48 := mp38.fr (fun p q w w2 => f46 p q (by omega))
  have k4149 : sx44 3441 u = l := (f46 3441 u (by omega)).trans k4139
  have k4250 : sx44 3442 u = y_pl D (y_me D tt n) Q a b u := (f46 3442 u (by omega)).trans k4240
  have k4451 : sx44 3444 u = y_sA D a b u + y_sB D a b u := (f46 3444 u (by omega)).trans k4441
  have k4552 : sx44 3445 u = y_w D a b u := (f46 3445 u (by omega)).trans k4542
  have sg53 : ∀ i : Int, s 3221 u ≤ i → i < s 3221 u + s 3222 u → sx44 3443 i = y_pl D (y_me D tt n) Q a b u + y_sm2 s u i := fun i p q => (f46 3443 i (by omega)).trans (sg0 i p q)
  have k4954 : sx44 3449 l = y_pd D a b (Q 1) (u + 1) := a45.trans (by omega)
  refine T_if1 v_ob309 ?_
  refine T_let 3224 v_gm25 ?_
  refine T_if1 (v_x3224 (by omega)) ?_
  refine T_let (y_w D a b u) ((fr47 3224 u (by omega)).trans r4) ?_
  refine T_if1 v_ob309 ?_
  refine T_let 3226 v_gm27 ?_
  refine T_if1 (v_x3226 (by omega)) ?_
  refine T_let (y_sB D a b u) ((fr47 3226 u (by omega)).trans r6) ?_
  refine T_let ((y_w D a b u) + (y_sB D a b u)) (v_wid (by omega)) ?_
  refine T_if1 v_ob309 ?_
  refine T_let 3228 v_gm29 ?_
  refine T_if1 (v_x3228 (by omega)) ?_
  refine T_let (y_pB D a b (Q 1) u) ((fr47 3228 u (by omega)).trans r8) ?_
  refine T_let (((y_w D a b u) + (y_sB D a b u)) + (y_pB D a b (Q 1) u)) (v_wid (by omega)) ?_
  refine T_let ((y_pl D (y_me D tt n) Q a b u) + (((y_w D a b u) + (y_sB D a b u)) + (y_pB D a b (Q 1) u))) (v_wid (by omega)) ?_
  refine T_ite (fun hf => ?_) (fun hf => ?_)
  · have hfull := y_show hF
    refine T_of (fX12_laysLine_J436.eq_1 ..) ?_
    refine T_let (u + 1) (v_wid (by omega)) ?_
    have um : y_UM D (y_me D tt n) Q sx44 l a b u := ⟨k4149, k4250, k4552, k4451, fun i p q => by
      rw [fr47 3221 u (by omega)] at p q
      rw [fr47 3222 u (by omega)] at q
      rw [sg53 i p q, y_sm2_fr (s := s) (s' := sx44) (fun x y w => fr47 x y (by omega))]⟩
    have xz : y_xv D (y_me D tt n) Q a b u = 0 := by
      by_cases gg : y_gq D (y_me D tt n) a b u = 1
      · refine y_xv0 ?_ hu.1
        unfold y_rs; rw [eQ0, if_neg (by omega)]
      · unfold y_xv; rw [if_neg gg]
    rw [show (y_pl D (y_me D tt n) Q a b u) + (((y_w D a b u) + (y_sB D a b u)) + (y_pB D a b (Q 1) u)) = y_cu D (y_me D tt n) Q a b (u + 1) by omega]
    exact hr _ gc (fun w => by omega) (by omega) um k4954 fr47
  · have hfull := y_show hF
    have hf1 : Q 3 = 1 ∧ 0 ≤ rest ∧ b < n - 1 ∧ 0 < G := by omega
    have hf0 : full = 1 := by omega
    clear hfull
    have d0 : 0 ≤ rest / G := Int.ediv_nonneg (by omega) (by omega)
    have d1 : rest / G ≤ rest := Int.ediv_le_self _ (by omega)
    have d2 := Int.emod_nonneg rest (show G ≠ 0 by omega)
    have d3 := Int.emod_lt_of_pos rest (show 0 < G by omega)
    refine T_if1 v_ob309 ?_
    refine T_bI (T_of (em_isGap hfu mp48 ((fr47 312 7 (by omega)).trans eT) ((fr47 309 20 (by omega)).trans en) hw ha hb hu (fun v p q => (fr47 3224 v (by omega)).trans (rw4 v p q))) (T_rI ?_))
    refine T_ite (fun h55 => ?_) (fun h55 => ?_)
    · refine T_if1 (by omega) ?_
      refine T_let (rest / G) (by rw [Int.tdiv_eq_ediv_of_nonneg (by omega)]; exact v_wid (by omega)) ?_
      refine T_if1 (by omega) ?_
      refine T_let (rest % G) (Int.tmod_eq_emod_of_nonneg (by omega)) ?_
      refine T_ite (fun h56 => ?_) (fun h56 => ?_)
      · refine T_of (fX12_laysLine_J429.eq_1 ..) ?_
        refine T_let ((rest / G) + 0) (v_wid (by omega)) ?_
        refine T_let (((y_pl D (y_me D tt n) Q a b u) + (((y_w D a b u) + (y_sB D a b u)) + (y_pB D a b (Q 1) u))) + ((rest / G) + 0)) (v_wid (by omega)) ?_
        refine T_let (gc + 1) (v_wid (by omega)) ?_
        refine T_of (fX12_laysLine_J436.eq_1 ..) ?_
        refine T_let (u + 1) (v_wid (by omega)) ?_
        have um : y_UM D (y_me D tt n) Q sx44 l a b u := ⟨k4149, k4250, k4552, k4451, fun i p q => by
          rw [fr47 3221 u (by omega)] at p q
          rw [fr47 3222 u (by omega)] at q
          rw [sg53 i p q, y_sm2_fr (s := s) (s' := sx44) (fun x y w => fr47 x y (by omega))]⟩
        have gg : y_gq D (y_me D tt n) a b u = 1 := by omega
        have rs : y_rs D Q a b = rest := by
          unfold y_rs; rw [eQ0]
          by_cases rz : Q 3 = 1 ∧ 0 < Q 2 - y_LG D a b (Q 1) ∧ b < n - 1
          · rw [if_pos rz, hrest]
          · rw [if_neg rz]; omega
        have hg := y_show hC (by omega)
        have xz : y_xv D (y_me D tt n) Q a b u = rest / G + 0 := by
          unfold y_xv; rw [if_pos gg, rs, ← hG, ← hg, if_neg (by omega)]
        rw [show ((y_pl D (y_me D tt n) Q a b u) + (((y_w D a b u) + (y_sB D a b u)) + (y_pB D a b (Q 1) u))) + ((rest / G) + 0) = y_cu D (y_me D tt n) Q a b (u + 1) by omega]
        exact hr _ _ (fun _ => by rw [gns, ← hg, gg]) (by omega) um k4954 fr47
      · refine T_of (fX12_laysLine_J429.eq_1 ..) ?_
        refine T_let ((rest / G) + 1) (v_wid (by omega)) ?_
        refine T_let (((y_pl D (y_me D tt n) Q a b u) + (((y_w D a b u) + (y_sB D a b u)) + (y_pB D a b (Q 1) u))) + ((rest / G) + 1)) (v_wid (by omega)) ?_
        refine T_let (gc + 1) (v_wid (by omega)) ?_
        refine T_of (fX12_laysLine_J436.eq_1 ..) ?_
        refine T_let (u + 1) (v_wid (by omega)) ?_
        have um : y_UM D (y_me D tt n) Q sx44 l a b u := ⟨k4149, k4250, k4552, k4451, fun i p q => by
          rw [fr47 3221 u (by omega)] at p q
          rw [fr47 3222 u (by omega)] at q
          rw [sg53 i p q, y_sm2_fr (s := s) (s' := sx44) (fun x y w => fr47 x y (by omega))]⟩
        have gg : y_gq D (y_me D tt n) a b u = 1 := by omega
        have rs : y_rs D Q a b = rest := by
          unfold y_rs; rw [eQ0]
          by_cases rz : Q 3 = 1 ∧ 0 < Q 2 - y_LG D a b (Q 1) ∧ b < n - 1
          · rw [if_pos rz, hrest]
          · rw [if_neg rz]; omega
        have hg := y_show hC (by omega)
        have xz : y_xv D (y_me D tt n) Q a b u = rest / G + 1 := by
          unfold y_xv; rw [if_pos gg, rs, ← hG, ← hg, if_pos (by omega)]
        rw [show ((y_pl D (y_me D tt n) Q a b u) + (((y_w D a b u) + (y_sB D a b u)) + (y_pB D a b (Q 1) u))) + ((rest / G) + 1) = y_cu D (y_me D tt n) Q a b (u + 1) by omega]
        exact hr _ _ (fun _ => by rw [gns, ← hg, gg]) (by omega) um k4954 fr47
    · refine T_of (fX12_laysLine_J436.eq_1 ..) ?_
      refine T_let (u + 1) (v_wid (by omega)) ?_
      have um : y_UM D (y_me D tt n) Q sx44 l a b u := ⟨k4149, k4250, k4552, k4451, fun i p q => by
        rw [fr47 3221 u (by omega)] at p q
        rw [fr47 3222 u (by omega)] at q
        rw [sg53 i p q, y_sm2_fr (s := s) (s' := sx44) (fun x y w => fr47 x y (by omega))]⟩
      have xz : y_xv D (y_me D tt n) Q a b u = 0 := by unfold y_xv; rw [if_neg (by omega)]
      rw [show (y_pl D (y_me D tt n) Q a b u) + (((y_w D a b u) + (y_sB D a b u)) + (y_pB D a b (Q 1) u)) = y_cu D (y_me D tt n) Q a b (u + 1) by omega]
      exact hr _ gc (fun w => by rw [gns, y_show hC w]; omega) (by omega) um k4954 fr47
