/-! the class's layout: units are placed, line by line -/
theorem w_r194 : z_rw 194 ∧ z_gr 194 0 = 195 ∧ z_ln 194 = 200 := by decide +kernel
theorem w_r196 : z_rw 196 ∧ z_gr 196 0 = 197 ∧ z_ln 196 = 200 := by decide +kernel
theorem w_r216 : z_rw 216 ∧ z_gr 216 0 = 217 ∧ z_ln 216 = 200 := by decide +kernel
theorem w_r259 : z_rw 259 ∧ z_gr 259 0 = 260 ∧ z_ln 259 = 200 := by decide +kernel
theorem w_r261 : z_rw 261 ∧ z_gr 261 0 = 262 ∧ z_ln 261 = 200 := by decide +kernel
theorem w_r263 : z_rw 263 ∧ z_gr 263 0 = 264 ∧ z_ln 263 = 200 := by decide +kernel
theorem w_r265 : z_rw 265 ∧ z_gr 265 0 = 266 ∧ z_ln 265 = 200 := by decide +kernel
theorem w_r267 : z_rw 267 ∧ z_gr 267 0 = 268 ∧ z_ln 267 = 200 := by decide +kernel
/-- where signs of units lie, how long they are -/
def y_FZ (s : z_M) : Prop := (∀ u : Int, 0 ≤ u → u < s 191 16 → 0 ≤ s 195 u ∧ 1 ≤ s 197 u ∧ s 195 u + s 197 u ≤ 200 ∧ ∀ i : Int, s 195 u ≤ i → i < s 195 u + s 197 u → 0 ≤ s 217 i ∧ s 217 i ≤ 12) ∧ ∀ v u : Int, 0 ≤ v → v < u → u < s 191 16 → s 195 v + s 197 v ≤ s 195 u
theorem y_FZ.fr {s s' : z_M} (h : y_FZ s) (f : ∀ x y : Int, 191 ≤ x → x ≤ 219 → s' x y = s x y) : y_FZ s' := by
  have e := f 191 16 (by decide) (by decide)
  refine ⟨fun u p q => ?_, fun v u p q r => ?_⟩
  · rw [f 195 u (by decide) (by decide), f 197 u (by decide) (by decide)]
    obtain ⟨h1, h2, h3, h4⟩ := h.1 u p (by omega)
    exact ⟨h1, h2, h3, fun i p q => by rw [f 217 i (by decide) (by decide)]; exact h4 i p q⟩
  · rw [f 195 v (by decide) (by decide), f 197 v (by decide) (by decide), f 195 u (by decide) (by decide)]
    exact h.2 v u p q (by omega)
/-- a sign's place in its unit -/
def y_sg2 (s : z_M) (u i : Int) : Int := if y_ac s u = 0 then y_su (s 217) (s 195 u) i else 0
/-- a unit's rows, of a line from a to b -/
def y_UW (D : z_M) (E Q : Int → Int) (s : z_M) (l a b u : Int) : Prop := s 260 u = l ∧ s 262 u = y_pl D E Q a b u ∧ s 264 u = y_w D a b u ∧ s 266 u = y_sA D a b u + y_sB D a b u ∧ ∀ i : Int, s 195 u ≤ i → i < s 195 u + s 197 u → s 268 i = y_pl D E Q a b u + y_sg2 s u i
/-- cells that a unit's signs are told by -/
abbrev y_u5 (x : Int) : Prop := x = 3 ∨ x = 193 ∨ x = 195 ∨ x = 197 ∨ x = 217
theorem y_ac_fr {s s' : z_M} {u : Int} (f : ∀ x y : Int, y_u5 x → s' x y = s x y) : y_ac s' u = y_ac s u := by
  unfold y_ac; rw [f 193 u (by decide), f 3 5 (by decide), f 197 u (by decide), f 3 1 (by decide)]
theorem y_sg2_fr {s s' : z_M} {u i : Int} (f : ∀ x y : Int, y_u5 x → s' x y = s x y) : y_sg2 s' u i = y_sg2 s u i := by
  unfold y_sg2; rw [y_ac_fr f, f 195 u (by decide), show s' 217 = s 217 from funext fun b => f 217 b (by decide)]
theorem y_UW.fr {D : z_M} {E Q : Int → Int} {s s' : z_M} {l a b u : Int} (h : y_UW D E Q s l a b u) (f : ∀ x y : Int, y_u5 x → s' x y = s x y) (g : ∀ x : Int, x = 260 ∨ x = 262 ∨ x = 264 ∨ x = 266 → s' x u = s x u) (k : ∀ i : Int, s 195 u ≤ i → i < s 195 u + s 197 u → s' 268 i = s 268 i) : y_UW D E Q s' l a b u := by
  obtain ⟨h1, h2, h3, h4, h5⟩ := h
  refine ⟨(g _ (by decide)).trans h1, (g _ (by decide)).trans h2, (g _ (by decide)).trans h3, (g _ (by decide)).trans h4, fun i p q => ?_⟩
  rw [f 195 u (by decide)] at p q
  rw [f 197 u (by decide)] at q
  rw [k i p q, h5 i p q, y_sg2_fr f]
/-- the signs of a unit are placed -/
theorem e_puL {fu : Nat} {s0 : z_M} {ac f z x : Int} {k : z_M → z_O} {P : z_V → z_M → Prop} (hf : 0 ≤ f) (hz : f + z ≤ 200) (hx : 0 ≤ x ∧ x ≤ 20000000) (hb : ∀ i : Int, f ≤ i → i < f + z → 0 ≤ s0 217 i ∧ s0 217 i ≤ 12)
    (hk : ∀ s' : z_M, (∀ i : Int, f ≤ i → i < f + z → s' 268 i = x + (if ac = 0 then y_su (s0 217) f i else 0)) → (∀ a b : Int, ¬ (a = 268 ∧ f ≤ b ∧ b < f + z) → s' a b = s0 a b) → z_T (k s') P) :
    ∀ (m F : Nat) (s : z_M) (c i : Int), (m : Int) = f + z - i → m < F → f ≤ i → c = x + (if ac = 0 then y_su (s0 217) f i else 0) → (∀ j : Int, f ≤ j → j < i → s 268 j = x + (if ac = 0 then y_su (s0 217) f j else 0)) → (∀ a b : Int, ¬ (a = 268 ∧ f ≤ b ∧ b < f + z) → s a b = s0 a b) → z_T (fX3_placeUnit_L101 fu 258 ac (f + z) F s c i k) P := by
  intro m
  induction m with
  | zero =>
    intro F s c i h1 hF h3 hc g fr
    obtain ⟨F, rfl⟩ : ∃ F2, F = F2 + 1 := ⟨F - 1, by omega⟩
    refine T_of (fX3_placeUnit_L101.eq_2 ..) ?_
    refine T_if1 (by omega) ?_
    exact hk s (fun j p q => g j p (by omega)) fr
  | succ m ih =>
    intro F s c i h1 hF h3 hc g fr
    obtain ⟨F, rfl⟩ : ∃ F2, F = F2 + 1 := ⟨F - 1, by omega⟩
    have bi := hb i h3 (by omega)
    have sb := y_su_r (f := s0 217) (a := f) (u := i) (m := 12) (by decide) (fun j p q => hb j p (by omega)) h3 (by omega)
    have ss := y_suS (f := s0 217) h3
    refine T_of (fX3_placeUnit_L101.eq_2 ..) ?_
    refine T_if0 (by omega) ?_
    refine T_if1 (by decide +kernel) ?_
    refine T_let 267 (by decide +kernel) ?_
    refine T_if1 (by decide +kernel) ?_
    refine T_putG w_r267 (by omega) (fun sx1 a2 f3 => ?_)
    have fr4 : ∀ a b : Int, ¬ (a = 268 ∧ f ≤ b ∧ b < f + z) → sx1 a b = s0 a b := fun a b q => (f3 a b (by omega)).trans (fr a b q)
    have f2685 := f3
    have cb : -100 ≤ c ∧ c ≤ 20010000 := by
      rw [hc]; split <;> omega
    refine T_ite (fun h6 => ?_) (fun h6 => ?_)
    · refine T_if1 (by decide +kernel) ?_
      refine T_let 191 (by decide +kernel) ?_
      refine T_if1 v_ob191 ?_
      refine T_let 216 (by decide +kernel) ?_
      refine T_if1 (by decide +kernel) ?_
      refine T_getV w_r216 (by omega) (fr4 217 i (by omega)) ?_
      refine T_of (fX3_placeUnit_J142.eq_1 ..) ?_
      refine T_let (c + (s0 217 i)) (v_wid (by omega)) ?_
      refine T_let (i + 1) (v_wid (by omega)) ?_
      refine ih F _ _ _ (by omega) (by omega) (by omega) ?_ (fun j p q => ?_) fr4
      · rw [if_pos (by omega)] at hc ⊢
        rw [ss]
        omega
      · by_cases zz : j = i
        · rw [zz, a2, hc]
        · rw [f2685 268 j (by omega)]; exact g j p (by omega)
    · refine T_of (fX3_placeUnit_J142.eq_1 ..) ?_
      refine T_let (c + 0) (v_wid (by omega)) ?_
      refine T_let (i + 1) (v_wid (by omega)) ?_
      refine ih F _ _ _ (by omega) (by omega) (by omega) ?_ (fun j p q => ?_) fr4
      · rw [if_neg (by omega)] at hc ⊢
        omega
      · by_cases zz : j = i
        · rw [zz, a2, hc]
        · rw [f2685 268 j (by omega)]; exact g j p (by omega)
theorem e_placeUnit {fu : Nat} (hfu : 8589934592 ≤ fu) {D s : z_M} {E : Int → Int} (cm : y_CM D E s s) (fz : y_FZ s) {l a b u x : Int} (tr : y_TR D s a b) (hl : 0 ≤ l ∧ l < 200) (hu : a ≤ u ∧ u ≤ b) (hx : 0 ≤ x ∧ x ≤ 20000000) :
    z_T (fX3_placeUnit fu s 258 u l x) (fun v s' => v = vN ∧ (s' 260 u = l ∧ s' 262 u = x ∧ s' 264 u = y_w D a b u ∧ s' 266 u = y_sA D a b u + y_sB D a b u ∧ ∀ i : Int, s 195 u ≤ i → i < s 195 u + s 197 u → s' 268 i = x + y_sg2 s u i) ∧ ∀ p q : Int, ¬ ((p = 260 ∨ p = 262 ∨ p = 264 ∨ p = 266) ∧ q = u) → ¬ (p = 268 ∧ s 195 u ≤ q ∧ q < s 195 u + s 197 u) → s' p q = s p q) := by
  have n2 := cm.1.1.2
  have l2 := tr.2.2.1
  obtain ⟨z1, z2, z3, z4⟩ := fz.1 u (by omega) (by omega)
  have fr : ∀ p q : Int, ¬ ((p = 260 ∨ p = 262 ∨ p = 264 ∨ p = 266) ∧ q = u) → s p q = s p q := fun _ _ _ => rfl
  refine T_of (fX3_placeUnit.eq_1 ..) ?_
  refine T_if1 (by decide +kernel) ?_
  refine T_let 259 (by decide +kernel) ?_
  refine T_if1 (by decide +kernel) ?_
  refine T_putG w_r259 (by omega) (fun sx7 a8 f9 => ?_)
  have fr10 : ∀ p q : Int, ¬ ((p = 260 ∨ p = 262 ∨ p = 264 ∨ p = 266) ∧ q = u) → sx7 p q = s p q := fun p q w => (f9 p q (by omega)).trans (fr p q w)
  have cm11 := cm.self (fun p q w => f9 p q (by omega))
  have tr12 := tr.fr (f9 _ _ (by omega)) (f9 _ _ (by omega)) (f9 _ _ (by omega))
  have k6013 : sx7 260 u = l := a8
  refine T_if1 (by decide +kernel) ?_
  refine T_let 261 (by decide +kernel) ?_
  refine T_if1 (by decide +kernel) ?_
  refine T_putG w_r261 (by omega) (fun sx14 a15 f16 => ?_)
  have fr17 : ∀ p q : Int, ¬ ((p = 260 ∨ p = 262 ∨ p = 264 ∨ p = 266) ∧ q = u) → sx14 p q = s p q := fun p q w => (f16 p q (by omega)).trans (fr10 p q w)
  have cm18 := cm11.self (fun p q w => f16 p q (by omega))
  have tr19 := tr12.fr (f16 _ _ (by omega)) (f16 _ _ (by omega)) (f16 _ _ (by omega))
  have k6020 : sx14 260 u = l := (f16 260 u (by omega)).trans k6013
  have k6221 : sx14 262 u = x := a15
  refine T_if1 (by decide +kernel) ?_
  refine T_let 263 (by decide +kernel) ?_
  refine T_if1 (by decide +kernel) ?_
  refine T_let 220 (by decide +kernel) ?_
  refine T_if1 (by decide +kernel) ?_
  refine T_bI (T_of (e_widthOf cm18.1 tr19 hu) (T_rI ?_))
  refine T_if1 (by decide +kernel) ?_
  refine T_putG w_r263 (by omega) (fun sx22 a23 f24 => ?_)
  have fr25 : ∀ p q : Int, ¬ ((p = 260 ∨ p = 262 ∨ p = 264 ∨ p = 266) ∧ q = u) → sx22 p q = s p q := fun p q w => (f24 p q (by omega)).trans (fr17 p q w)
  have cm26 := cm18.self (fun p q w => f24 p q (by omega))
  have tr27 := tr19.fr (f24 _ _ (by omega)) (f24 _ _ (by omega)) (f24 _ _ (by omega))
  have k6028 : sx22 260 u = l := (f24 260 u (by omega)).trans k6020
  have k6229 : sx22 262 u = x := (f24 262 u (by omega)).trans k6221
  have k6430 : sx22 264 u = y_w D a b u := a23
  refine T_if1 (by decide +kernel) ?_
  refine T_let 265 (by decide +kernel) ?_
  refine T_if1 (by decide +kernel) ?_
  refine T_let 220 (by decide +kernel) ?_
  refine T_if1 (by decide +kernel) ?_
  refine T_bI (T_of (e_spaceOfL cm26.1 tr27 hu) (T_rI ?_))
  refine T_if1 (by decide +kernel) ?_
  refine T_putG w_r265 (by omega) (fun sx31 a32 f33 => ?_)
  have fr34 : ∀ p q : Int, ¬ ((p = 260 ∨ p = 262 ∨ p = 264 ∨ p = 266) ∧ q = u) → sx31 p q = s p q := fun p q w => (f33 p q (by omega)).trans (fr25 p q w)
  have cm35 := cm26.self (fun p q w => f33 p q (by omega))
  have tr36 := tr27.fr (f33 _ _ (by omega)) (f33 _ _ (by omega)) (f33 _ _ (by omega))
  have k6037 : sx31 260 u = l := (f33 260 u (by omega)).trans k6028
  have k6238 : sx31 262 u = x := (f33 262 u (by omega)).trans k6229
  have k6439 : sx31 264 u = y_w D a b u := (f33 264 u (by omega)).trans k6430
  have k6640 : sx31 266 u = y_sA D a b u + y_sB D a b u := a32
  refine T_if1 (by decide +kernel) ?_
  refine T_let 191 (by decide +kernel) ?_
  refine T_if1 v_ob191 ?_
  refine T_bI (T_of (e_isAcross (by omega)) (T_rI ?_))
  refine T_if1 (by decide +kernel) ?_
  refine T_let 191 (by decide +kernel) ?_
  refine T_if1 v_ob191 ?_
  refine T_let 194 (by decide +kernel) ?_
  refine T_if1 (by decide +kernel) ?_
  refine T_getV w_r194 (by omega) (fr34 195 u (by omega)) ?_
  refine T_if1 (by decide +kernel) ?_
  refine T_let 191 (by decide +kernel) ?_
  refine T_if1 v_ob191 ?_
  refine T_let 196 (by decide +kernel) ?_
  refine T_if1 (by decide +kernel) ?_
  refine T_getV w_r196 (by omega) (fr34 197 u (by omega)) ?_
  refine T_let ((s 195 u) + (s 197 u)) (v_wid (by omega)) ?_
  refine T_if1 (by decide +kernel) ?_
  refine T_let 191 (by decide +kernel) ?_
  refine T_if1 v_ob191 ?_
  refine T_let 194 (by decide +kernel) ?_
  refine T_if1 (by decide +kernel) ?_
  refine T_getV w_r194 (by omega) (fr34 195 u (by omega)) ?_
  have eac : y_ac sx31 u = y_ac s u := y_ac_fr (fun p q w => fr34 p q (by omega))
  rw [eac]
  refine e_puL (s0 := sx31) z1 z3 hx (fun i p q => by rw [fr34 217 i (by omega)]; exact z4 i p q) (fun s9 g9 f9 => ?_) (s 197 u).toNat fu _ x (s 195 u) (by omega) (by omega) (Int.le_refl _) (by rw [y_su0]; split <;> omega) (fun j p q => by omega) (fun _ _ _ => rfl)
  refine T_ret ⟨rfl, ⟨(f9 _ _ (by omega)).trans k6037, (f9 _ _ (by omega)).trans k6238, (f9 _ _ (by omega)).trans k6439, (f9 _ _ (by omega)).trans k6640, fun i p q => ?_⟩, fun p q w w2 => (f9 p q w2).trans (fr34 p q w)⟩
  rw [g9 i p q, show sx31 217 = s 217 from funext fun j => fr34 217 j (by omega)]
  rfl
/-- the rest to share -/
theorem e_rest {fu : Nat} {D s : z_M} {Q : Int → Int} {l a b c : Int} (hl : 0 ≤ l ∧ l < 200) (e0 : s 3 0 = Q 2) (e4 : s 3 4 = Q 3) (eL : s 270 l = y_LG D a b (Q 1)) (ec : s 240 6 = c) (hc : 0 ≤ c ∧ c ≤ 200) (hb : l + 1 < c ↔ b < Q 0 - 1) (q2 : 0 ≤ Q 2 ∧ Q 2 ≤ 10000) (lb : 0 ≤ y_LG D a b (Q 1) ∧ y_LG D a b (Q 1) ≤ 6000000) : fX3_restToShare fu s 258 l = some (vI (y_rs D Q a b), s) := by
  refine T_eq ?_
  refine T_of (fX3_restToShare.eq_1 ..) ?_
  refine T_if1 (by decide +kernel) ?_
  refine T_let 2 (by decide +kernel) ?_
  refine T_if1 (by decide +kernel) ?_
  refine T_getV w_r2 (by omega) e0 ?_
  refine T_if1 (by decide +kernel) ?_
  refine T_let 269 (by decide +kernel) ?_
  refine T_if1 (by decide +kernel) ?_
  refine T_getV w_r269 (by omega) eL ?_
  refine T_let ((Q 2) - (y_LG D a b (Q 1))) (v_wid (by omega)) ?_
  refine T_if1 (by decide +kernel) ?_
  refine T_let 2 (by decide +kernel) ?_
  refine T_if1 (by decide +kernel) ?_
  refine T_getV w_r2 (by omega) e4 ?_
  refine T_ite (fun h41 => ?_) (fun h41 => ?_)
  · refine T_of (fX3_restToShare_J51.eq_1 ..) ?_
    refine T_of (fX3_restToShare_J52.eq_1 ..) ?_
    exact T_ret ⟨congrArg vI (by unfold y_rs; rw [if_neg (by omega)]), rfl⟩
  · refine T_ite (fun h42 => ?_) (fun h42 => ?_)
    · refine T_of (fX3_restToShare_J51.eq_1 ..) ?_
      refine T_of (fX3_restToShare_J52.eq_1 ..) ?_
      exact T_ret ⟨congrArg vI (by unfold y_rs; rw [if_neg (by omega)]), rfl⟩
    · refine T_if1 (by decide +kernel) ?_
      refine T_let 240 (by decide +kernel) ?_
      refine T_if1 (by decide +kernel) ?_
      refine T_let c ec ?_
      refine T_let (c - 1) (v_wid (by omega)) ?_
      refine T_ite (fun h43 => ?_) (fun h43 => ?_)
      · refine T_of (fX3_restToShare_J51.eq_1 ..) ?_
        refine T_of (fX3_restToShare_J52.eq_1 ..) ?_
        exact T_ret ⟨congrArg vI (by unfold y_rs; rw [if_neg (by omega)]), rfl⟩
      · refine T_of (fX3_restToShare_J52.eq_1 ..) ?_
        exact T_ret ⟨congrArg vI (by unfold y_rs; rw [if_pos (by omega)]), rfl⟩
theorem y_Bl.nu {D : z_M} {a b f z u : Int} (h : y_Bl D a b f z) (h1 : f < u) (h2 : u ≤ z + 1) : y_ns D a u = y_ns D a f + 1 := by
  have e1 := y_su_pt (f := y_sdd D a) (a := a) (x := f) (y := u) h.1 (by omega)
  have e2 := y_su_pt (f := y_sdd D a) (a := f) (x := f + 1) (y := u) (by omega) (by omega)
  have e3 := y_suS (f := y_sdd D a) (a := f) (u := f) (Int.le_refl f)
  have e0 := y_su0 (f := y_sdd D a) (a := f)
  have ez : y_su (y_sdd D a) (f + 1) u = 0 := y_su_z (fun i p q => by
    unfold y_sdd
    rw [if_neg (fun w => w.2 (h.2.2.2.2.1 i (by omega) (by omega)))])
  have ef : y_sdd D a f = 1 := by unfold y_sdd; rw [if_pos h.2.2.2.1]
  unfold y_ns
  omega
/-- the number of the block that stands at u, or comes next -/
def y_kb (D : z_M) (a u : Int) : Int := y_ns D a u - (if y_ct D a u then 1 else 0)
theorem y_GI.kb {D s : z_M} {o A B c0 c u : Int} (g : y_GI D s o (y_fr D A B) (y_to D A B) c0 c) (hAB : A ≤ B + 1) (hu : A ≤ u ∧ u ≤ B) (k7 : D 0 u = 7) : (c0 ≤ c0 + y_kb D A u ∧ c0 + y_kb D A u < c) ∧ (s (o + 2) (c0 + y_kb D A u) = u ↔ y_sa D A u) ∧ (s (o + 4) (c0 + y_kb D A u) = u ↔ ¬ (u < B ∧ y_ct D A (u + 1))) := by
  have ft := y_ft (D := D) hAB
  have h0 : y_fr D A B ≤ u := by
    by_cases w : y_fr D A B ≤ u
    · exact w
    · have := ft.2.2.1 u hu.1 (by omega); omega
  have h1 : u ≤ y_to D A B := by
    by_cases w : u ≤ y_to D A B
    · exact w
    · have := ft.2.2.2.1 u (by omega) hu.2; omega
  obtain ⟨k, p0, p1, p2, p3⟩ := g.has h0 h1 k7
  have bl := (g.2.1 k p0 p1).1.up hAB
  have nk := g.nk hAB (k - c0).toNat k p0 p1 (by omega)
  have sa := bl.sa p2 p3
  have ea := bl.ea p2 p3
  have ek : c0 + y_kb D A u = k := by
    unfold y_kb
    by_cases q : u = s (o + 2) k
    · rw [if_neg (sa.mpr q).2, q, nk]; omega
    · have ct := bl.2.2.2.2.1 u (by omega) p3
      rw [if_pos ct, bl.nu (by omega) (by omega), nk]; omega
  rw [ek]
  refine ⟨⟨p0, p1⟩, ⟨fun q => sa.mpr q.symm, fun q => (sa.mp q).symm⟩, ⟨fun q => (ea.mpr q.symm).2, fun q => (ea.mp ⟨k7, q⟩).symm⟩⟩
/-- and then at the next unit -/
theorem y_kb_s {D : z_M} {a b u : Int} (h0 : a ≤ u) (h1 : u < b) : y_kb D a (u + 1) = y_kb D a u + (if D 0 u = 7 ∧ ¬ (u < b ∧ y_ct D a (u + 1)) then 1 else 0) := by
  have e := y_suS (f := y_sdd D a) h0
  have sd := y_sd01 (D := D) (a := a) (v := u)
  unfold y_kb y_ns
  rw [e]
  by_cases k7 : D 0 u = 7
  · by_cases ct : y_ct D a u
    · have s0 : y_sdd D a u = 0 := by rcases sd with q | q; exact absurd ct q.2.2; exact q.1
      rw [if_pos ct, s0]
      by_cases c2 : y_ct D a (u + 1)
      · rw [if_pos c2, if_neg (fun w => w.2 ⟨h1, c2⟩)]; omega
      · rw [if_neg c2, if_pos ⟨k7, fun w => c2 w.2⟩]; omega
    · have s1 : y_sdd D a u = 1 := by rcases sd with q | q; exact q.1; exact absurd ⟨k7, ct⟩ q.2
      rw [if_neg ct, s1]
      by_cases c2 : y_ct D a (u + 1)
      · rw [if_pos c2, if_neg (fun w => w.2 ⟨h1, c2⟩)]; omega
      · rw [if_neg c2, if_pos ⟨k7, fun w => c2 w.2⟩]; omega
  · have ct : ¬ y_ct D a u := fun w => k7 w.2.1
    have c2 : ¬ y_ct D a (u + 1) := fun w => k7 (by have := w.2.2.1; rw [show u + 1 - 1 = u by omega] at this; exact this)
    have s0 : y_sdd D a u = 0 := by rcases sd with q | q; exact absurd q.2.1 k7; exact q.1
    rw [if_neg ct, if_neg c2, if_neg (fun w => k7 w.1), s0]
    omega
/-- what is empty behind a gap is added -/
theorem e_pu262 {fu : Nat} {D s : z_M} {E Q : Int → Int} (h : y_CU2 D s) (hE : ∀ u : Int, 0 ≤ u → u < s 191 16 → s 209 u = E u) (hE1 : ∀ u : Int, E u = 0 ∨ E u = 1) {l a b u each lg bk C : Int} (tr : y_TR D s a b) (hu : a ≤ u ∧ u ≤ b) {r : z_M → Int → Int → Int → Int → z_O} {k : z_M → z_O} {P : z_V → z_M → Prop}
    (he : y_gq D E a b u = 1 → each = y_rs D Q a b / y_gn D E a b (b + 1) ∧ lg = y_rs D Q a b % y_gn D E a b (b + 1) - y_gn D E a b u) (hC : C + y_xv D E Q a b u = y_cu D E Q a b (u + 1)) (bC : 0 ≤ C ∧ C ≤ 20000000) (be : 0 ≤ each ∧ each ≤ 10000) (bl : -1000 ≤ lg ∧ lg ≤ 100000)
    (hr : ∀ lg' : Int, lg' = lg - y_gq D E a b u → z_T (r s lg' bk (y_cu D E Q a b (u + 1)) (u + 1)) P) : z_T (fX3_placeUnits_J262 fu s 258 l each lg bk C u r k) P := by
  have n2 := h.1.2
  have l2 := tr.2.2.1
  have g01 := y_gq01 (D := D) (E := E) (a := a) (b := b) (u := u)
  refine T_of (fX3_placeUnits_J262.eq_1 ..) ?_
  refine T_if1 (by decide +kernel) ?_
  refine T_bI (T_of (e_hasGap h hE hE1 tr hu) (T_rI ?_))
  refine T_ite (fun h44 => ?_) (fun h44 => ?_)
  · refine T_of (fX3_placeUnits_J293.eq_1 ..) ?_
    refine T_let (u + 1) (v_wid (by omega)) ?_
    have x0 : y_xv D E Q a b u = 0 := by unfold y_xv; rw [if_neg (by omega)]
    rw [show C = y_cu D E Q a b (u + 1) by omega]
    exact hr lg (by omega)
  · refine T_ite (fun h45 => ?_) (fun h45 => ?_)
    · refine T_of (fX3_placeUnits_J287.eq_1 ..) ?_
      refine T_let (C + each) (v_wid (by omega)) ?_
      refine T_let (lg + (-1)) (v_wid (by omega)) ?_
      refine T_of (fX3_placeUnits_J293.eq_1 ..) ?_
      refine T_let (u + 1) (v_wid (by omega)) ?_
      have g1 : y_gq D E a b u = 1 := by omega
      obtain ⟨z1, z2⟩ := he g1
      have x0 : y_xv D E Q a b u = each := by unfold y_xv; rw [if_pos g1, if_neg (by omega), z1]; omega
      rw [show C + each = y_cu D E Q a b (u + 1) by omega]
      exact hr _ (by omega)
    · refine T_let (each + 1) (v_wid (by omega)) ?_
      refine T_of (fX3_placeUnits_J287.eq_1 ..) ?_
      refine T_let (C + (each + 1)) (v_wid (by omega)) ?_
      refine T_let (lg + (-1)) (v_wid (by omega)) ?_
      refine T_of (fX3_placeUnits_J293.eq_1 ..) ?_
      refine T_let (u + 1) (v_wid (by omega)) ?_
      have g1 : y_gq D E a b u = 1 := by omega
      obtain ⟨z1, z2⟩ := he g1
      have x0 : y_xv D E Q a b u = each + 1 := by unfold y_xv; rw [if_pos g1, if_pos (by omega), z1]
      rw [show C + (each + 1) = y_cu D E Q a b (u + 1) by omega]
      exact hr _ (by omega)
