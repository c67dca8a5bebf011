/-! lines as they come: both sides -/
/-- the latest place from a on, m of them, of which p is so -/
def y_la (p : Int → Int) (a : Int) : Nat → Int
  | 0 => -1
  | m + 1 => if p (a + m) = 1 then a + m else y_la p a m
theorem y_la_s {p : Int → Int} {a : Int} {m : Nat} : y_la p a (m + 1) = if p (a + m) = 1 then a + m else y_la p a m := rfl
theorem y_la_b {p : Int → Int} {a : Int} (h : 0 ≤ a) : ∀ m : Nat, y_la p a m = -1 ∨ (a ≤ y_la p a m ∧ y_la p a m < a + m ∧ p (y_la p a m) = 1) := by
  intro m
  induction m with
  | zero => exact Or.inl rfl
  | succ m ih =>
    rw [y_la_s]
    by_cases q : p (a + m) = 1
    · rw [if_pos q]; exact Or.inr ⟨by omega, by omega, q⟩
    · rw [if_neg q]
      rcases ih with i | i
      · exact Or.inl i
      · exact Or.inr ⟨i.1, by omega, i.2.2⟩
theorem y_la_n {p : Int → Int} {a : Int} {m k : Nat} (h : ∀ i : Int, a + m ≤ i → i < a + m + k → p i ≠ 1) : y_la p a (m + k) = y_la p a m := by
  induction k with
  | zero => rfl
  | succ k ih =>
    rw [show m + (k + 1) = (m + k) + 1 by omega, y_la_s, if_neg (h _ (by omega) (by omega))]
    exact ih (fun i a b => h i a (by omega))
/-- a line from a on that fits; that fits and may end -/
def y_f1 (L : Int → Int → Int) (len a b : Int) : Int := if L a b ≤ len then 1 else 0
def y_f2 (L : Int → Int → Int) (C : Int → Int) (len a b : Int) : Int := if L a b ≤ len ∧ C b = 1 then 1 else 0
/-- a line closes behind u: it may end there, or all does -/
def y_cl2 (E : Int → Int) (n u : Int) : Int := if u = n - 1 ∨ E u = 1 then 1 else 0
/-- the last unit of a line as they come -/
def y_cm (L : Int → Int → Int) (C : Int → Int) (n len a : Int) : Int := if y_la (y_f2 L C len a) a (n - a).toNat ≠ -1 then y_la (y_f2 L C len a) a (n - a).toNat else if y_la (y_f1 L len a) a (n - a).toNat ≠ -1 then y_la (y_f1 L len a) a (n - a).toNat else a
theorem y_cm_b {L : Int → Int → Int} {C : Int → Int} {n len a : Int} (h0 : 0 ≤ a) (h1 : a < n) : a ≤ y_cm L C n len a ∧ y_cm L C n len a < n := by
  have b1 := y_la_b (p := y_f2 L C len a) h0 (n - a).toNat
  have b2 := y_la_b (p := y_f1 L len a) h0 (n - a).toNat
  unfold y_cm
  by_cases q : y_la (y_f2 L C len a) a (n - a).toNat ≠ -1
  · rw [if_pos q]; omega
  · rw [if_neg q]
    by_cases q2 : y_la (y_f1 L len a) a (n - a).toNat ≠ -1
    · rw [if_pos q2]; omega
    · rw [if_neg q2]; omega
/-- widths that no line can lack -/
def y_sol (D : z_M) (v : Int) : Int := if D 0 v = 6 ∨ D 0 v = 3 then 0 else D 1 v
theorem y_so_b {D : z_M} {n u : Int} (d : y_DF D n) (h : 0 ≤ u ∧ u < n) : 0 ≤ y_sol D u ∧ y_sol D u ≤ 2400 := by
  have := (d u h.1 h.2).2.1
  unfold y_sol
  split
  · decide
  · exact this
theorem y_sum_le {f g : Int → Int} {a : Int} : ∀ n : Nat, (∀ i : Int, a ≤ i → i < a + n → f i ≤ g i) → y_sum f a n ≤ y_sum g a n := by
  intro n
  induction n with
  | zero => intro _; exact Int.le_refl _
  | succ n ih =>
    intro h
    have h1 := ih (fun i p q => h i p (by omega))
    have h2 := h (a + n) (by omega) (by omega)
    rw [y_sum_s, y_sum_s]
    omega
theorem y_so_LG {D : z_M} {n a b ln : Int} (d : y_DF D n) (hA : 0 ≤ a) (hB : b < n) (hn : n ≤ 200) (hl : 0 ≤ ln ∧ ln ≤ 6) : y_sum (y_sol D) a (b + 1 - a).toNat ≤ y_LG D a b ln := by
  by_cases hab : a ≤ b
  · have ft := y_ft (D := D) (show a ≤ b + 1 by omega)
    unfold y_LG
    refine y_sum_le _ (fun u p q => ?_)
    have h2 := y_sAB_b (D := D) (a := a) (b := b) (u := u)
    have h3 := y_pAB_r d hA hB hn (show a ≤ u ∧ u ≤ b by omega) hl
    have hw : y_sol D u ≤ y_w D a b u := by
      have w0 := y_w_b (a := a) (b := b) d (show 0 ≤ u ∧ u < n by omega)
      unfold y_sol
      by_cases k : D 0 u = 6 ∨ D 0 u = 3
      · rw [if_pos k]; exact w0.1
      · rw [if_neg k]
        have f1 : y_fr D a b ≤ u := by
          by_cases z : y_fr D a b ≤ u
          · exact z
          · have := ft.2.2.1 u p (by omega); omega
        have f2 : u ≤ y_to D a b := by
          by_cases z : u ≤ y_to D a b
          · exact z
          · have := ft.2.2.2.1 u (by omega) (by omega); omega
        unfold y_w
        rw [if_neg (show ¬ (u < y_fr D a b ∨ y_to D a b < u) by omega), if_neg (fun x => ?_)]
        · exact Int.le_refl _
        · have hx := x.1
          unfold y_hg at hx
          by_cases w : D 5 0 = 1 ∧ y_fr D a b ≤ b ∧ D 0 (y_to D a b) = 3
          · rw [← x.2] at w; omega
          · rw [if_neg w] at hx; omega
    unfold y_one2
    omega
  · rw [show (b + 1 - a).toNat = 0 by omega]
    unfold y_LG
    rw [show (b + 1 - a).toNat = 0 by omega]
    exact Int.le_refl _
/-- the class's breaker: that of the layout, that on trial -/
def y_ob4 (o : Int) : Prop := o = 240 ∨ o = 249
theorem v_br {o : Int} (h : y_ob4 o) : z_ob o 1 ∧ z_gr o 0 = 191 ∧ z_gr o 1 = 220 ∧ z_gr o 2 = o + 1 ∧ z_gr o 3 = o + 3 ∧ z_gr o 4 = o + 5 ∧ z_gr o 5 = o + 7 := by
  rcases h with rfl | rfl <;> decide +kernel
theorem v_br1 {o : Int} (h : y_ob4 o) : z_rw (o + 1) ∧ z_gr (o + 1) 0 = o + 2 ∧ z_ln (o + 1) = 200 := by rcases h with rfl | rfl <;> decide +kernel
theorem v_br3 {o : Int} (h : y_ob4 o) : z_lr (o + 3) ∧ z_gr (o + 3) 0 = o + 4 ∧ z_ln (o + 3) = 201 := by rcases h with rfl | rfl <;> decide +kernel
theorem v_br5 {o : Int} (h : y_ob4 o) : z_rw (o + 5) ∧ z_gr (o + 5) 0 = o + 6 ∧ z_ln (o + 5) = 201 := by rcases h with rfl | rfl <;> decide +kernel
theorem v_br7 {o : Int} (h : y_ob4 o) : z_rw (o + 7) ∧ z_gr (o + 7) 0 = o + 8 ∧ z_ln (o + 7) = 201 := by rcases h with rfl | rfl <;> decide +kernel
theorem v_k212 : z_rw 212 ∧ z_gr 212 0 = 213 ∧ z_ln 212 = 201 := v_r212
theorem v_k208 : z_rw 208 ∧ z_gr 208 0 = 209 ∧ z_ln 208 = 200 := v_r208
/-- units, what is kept, ends, as D and E tell them; nothing but the measure's cells has changed since s0 -/
def y_CM (D : z_M) (E : Int → Int) (s0 s : z_M) : Prop := y_CU2 D s ∧ y_KN D s ∧ (0 ≤ s 3 2 ∧ s 3 2 ≤ 6) ∧ (∀ u : Int, 0 ≤ u → u < s 191 16 → s 209 u = E u) ∧ (∀ v : Int, 0 ≤ v → v ≤ s 191 16 → s 213 v = y_sum (y_sol D) 0 v.toNat) ∧ ∀ x y : Int, ¬ y_mw x y → x ≠ 222 → s x y = s0 x y
/-- another number of cells that the measure doesn't know -/
theorem y_CM.fr {D : z_M} {E : Int → Int} {s0 s s' : z_M} (h : y_CM D E s0 s) (f : ∀ x y : Int, x ≤ 239 → s' x y = s x y) (g : ∀ x y : Int, 240 ≤ x → s' x y = s0 x y) : y_CM D E s0 s' := by
  obtain ⟨h1, h2, h3, h4, h5, h6⟩ := h
  refine ⟨h1.fr (f _ _ (by decide)) (f _ _ (by decide)) (fun a b p q => f a b (by omega)), h2.fr (f _ _ (by decide)) (f _ _ (by decide)) (fun b => f _ _ (by decide)), by rw [f 3 2 (by decide)]; exact h3, fun u p q => ?_, fun v p q => ?_, fun x y p q => ?_⟩
  · rw [f 209 u (by decide)]; rw [f 191 16 (by decide)] at q; exact h4 u p q
  · rw [f 213 v (by decide)]; rw [f 191 16 (by decide)] at q; exact h5 v p q
  · by_cases z : x ≤ 239
    · rw [f x y z]; exact h6 x y p q
    · exact g x y (by omega)
/-- from another state on -/
theorem y_CM.at {D : z_M} {E : Int → Int} {s0 s : z_M} (h : y_CM D E s0 s) : y_CM D E s s := ⟨h.1, h.2.1, h.2.2.1, h.2.2.2.1, h.2.2.2.2.1, fun _ _ _ _ => rfl⟩
theorem y_CM.tr {D : z_M} {E : Int → Int} {s0 s1 s : z_M} (h : y_CM D E s1 s) (k : ∀ x y : Int, ¬ y_mw x y → x ≠ 222 → s1 x y = s0 x y) : y_CM D E s0 s := ⟨h.1, h.2.1, h.2.2.1, h.2.2.2.1, h.2.2.2.2.1, fun x y p q => (h.2.2.2.2.2 x y p q).trans (k x y p q)⟩
theorem e_CMlen {fu : Nat} (hfu : 8589934592 ≤ fu) {D : z_M} {E : Int → Int} {s0 s : z_M} (h : y_CM D E s0 s) {a b : Int} (h0 : 0 ≤ a ∧ a ≤ b) (h1 : b < s0 191 16) : z_T (fX5_lengthOf fu s 220 a b) (fun v s' => v = vI (y_LG D a b (s0 3 2)) ∧ y_CM D E s0 s') := by
  obtain ⟨h1', h2, h3, h4, h5, h6⟩ := h
  have en : s 191 16 = s0 191 16 := h6 _ _ (by omega) (by decide)
  have e2 : s 3 2 = s0 3 2 := h6 _ _ (by omega) (by decide)
  refine T_mono (e_lengthOf hfu h1' h2 h3 h0 (by omega)) (fun v s' hq => ?_)
  obtain ⟨q1, q2, q3⟩ := hq
  refine ⟨by rw [q1, e2], h1'.fr (q3 _ _ (by omega) (by decide)) (q3 _ _ (by omega) (by decide)) (fun a b p q => q3 a b (by omega) (by omega)), q2, by rw [q3 3 2 (by omega) (by decide)]; exact h3, fun u p q => ?_, fun v p q => ?_, fun x y p q => (q3 x y p q).trans (h6 x y p q)⟩
  · rw [q3 209 u (by omega) (by decide)]; rw [q3 191 16 (by omega) (by decide)] at q; exact h4 u p q
  · rw [q3 213 v (by omega) (by decide)]; rw [q3 191 16 (by omega) (by decide)] at q; exact h5 v p q
theorem y_bef2 {f : Int → Int} {x y : Int} (h0 : 0 ≤ x) (h1 : x ≤ y) : y_sum f 0 y.toNat - y_sum f 0 x.toNat = y_sum f x (y - x).toNat := by
  have e := y_sum_pt (f := f) (a := 0) (x := x) (y := y) h0 h1
  rw [show y - 0 = y by omega, show x - 0 = x by omega] at e
  omega
theorem e_CMsolid {fu : Nat} {D : z_M} {E : Int → Int} {s0 s : z_M} (h : y_CM D E s0 s) {a b : Int} (h0 : 0 ≤ a ∧ a ≤ b) (h1 : b < s 191 16) : fX10_solid fu s 191 a b = some (vI (y_sum (y_sol D) a (b + 1 - a).toNat), s) := by
  have n := h.1.1
  have g1 := h.2.2.2.2.1 (b + 1) (by omega) (by omega)
  have g2 := h.2.2.2.2.1 a (by omega) (by omega)
  have eb := y_bef2 (f := y_sol D) (x := a) (y := b + 1) h0.1 (by omega)
  have sb := y_sum_r (f := y_sol D) (a := a) (m := 2400) (b + 1 - a).toNat (fun i p q => y_so_b h.1.2.2.2.2 (by omega))
  have nb : ((b + 1 - a).toNat : Int) ≤ 200 := by omega
  unfold fX10_solid
  simp only [z_let, if_pos v_ob191, v_u12, if_pos v_k212.1.1, e_get v_k212.1, zb_I, v_wid (show -2147483648 ≤ b + 1 ∧ b + 1 ≤ 2147483647 by omega), v_rgn v_k212.2.1 v_k212.2.2 (show 0 ≤ b + 1 ∧ b + 1 < 201 by omega), v_rgn v_k212.2.1 v_k212.2.2 (show 0 ≤ a ∧ a < 201 by omega), g1, g2, eb]
  rw [v_wid (by omega)]
theorem e_CMcloses {fu : Nat} {D : z_M} {E : Int → Int} {s0 s : z_M} (h : y_CM D E s0 s) {o u : Int} (ho : y_ob4 o) (hu : 0 ≤ u ∧ u < s 191 16) : fX1_closesLine fu s o u = some (vI (y_cl2 E (s 191 16) u), s) := by
  have n := h.1.1
  have b := v_br ho
  unfold fX1_closesLine fX1_closesLine_J28 fX1_closesLine_J33 y_cl2
  simp only [z_let, if_pos b.1, b.2.1, if_pos v_ob191, v_u10, if_pos v_k208.1.1, e_get v_k208.1, zb_I, v_rgn v_k208.2.1 v_k208.2.2 (show 0 ≤ u ∧ u < 200 by omega), h.2.2.2.1 u hu.1 hu.2, if_pos bl0, if_pos bl1]
  rw [v_wid (show -2147483648 ≤ s 191 16 - 1 ∧ s 191 16 - 1 ≤ 2147483647 by omega)]
  by_cases q : u = s 191 16 - 1
  · rw [if_pos q, if_pos (Or.inl q)]
  · rw [if_neg q]
    by_cases e : E u = 1
    · rw [if_neg (show ¬ E u ≠ 1 from fun x => x e), if_pos (Or.inr e)]
    · rw [if_pos (show E u ≠ 1 from e), if_neg (show ¬ (u = s 191 16 - 1 ∨ E u = 1) by omega)]
/-- the class's lines as they come: how many units -/
theorem e_asManyL {fu : Nat} (hfu : 8589934592 ≤ fu) {D : z_M} {E : Int → Int} {s0 : z_M} {o a len n : Int} {L : Int → Int → Int} {C : Int → Int} (ho : y_ob4 o) (hL : ∀ x y : Int, L x y = y_LG D x y (s0 3 2)) (hC : ∀ u : Int, C u = y_cl2 E n u) (en : s0 191 16 = n) (ha : 0 ≤ a ∧ a < n) (hn : n ≤ 200) (hl : len ≤ 100000)
    {k : z_M → Int → Int → z_O} {P : z_V → z_M → Prop} (hk : ∀ s' : z_M, y_CM D E s0 s' → z_T (k s' (if y_la (y_f1 L len a) a (n - a).toNat = -1 then 1 else y_la (y_f1 L len a) a (n - a).toNat - a + 1) (if y_la (y_f2 L C len a) a (n - a).toNat = -1 then 0 else y_la (y_f2 L C len a) a (n - a).toNat - a + 1)) P) :
    ∀ (m F : Nat) (s : z_M) (x y b : Int), (m : Int) = n - b → m < F → a ≤ b → y_CM D E s0 s → x = (if y_la (y_f1 L len a) a (b - a).toNat = -1 then 1 else y_la (y_f1 L len a) a (b - a).toNat - a + 1) → y = (if y_la (y_f2 L C len a) a (b - a).toNat = -1 then 0 else y_la (y_f2 L C len a) a (b - a).toNat - a + 1) → z_T (fX1_asMany_L8 fu o a len F s x y b k) P := by
  have br := v_br ho
  intro m
  induction m with
  | zero =>
    intro F s x y b h1 hF h3 cm ex ey
    obtain ⟨F, rfl⟩ : ∃ F2, F = F2 + 1 := ⟨F - 1, by omega⟩
    refine T_of (fX1_asMany_L8.eq_2 ..) ?_
    refine T_if1 br.1 ?_
    refine T_let 191 br.2.1 ?_
    refine T_if1 v_ob191 ?_
    refine T_let n ((cm.2.2.2.2.2 _ _ (by omega) (by decide)).trans en) ?_
    refine T_if1 (show n ≤ b by omega) ?_
    rw [ex, ey, show b = n by omega]
    exact hk s cm
  | succ m ih =>
    intro F s x y b h1 hF h3 cm ex ey
    obtain ⟨F, rfl⟩ : ∃ F2, F = F2 + 1 := ⟨F - 1, by omega⟩
    have e1 : s 191 16 = n := (cm.2.2.2.2.2 _ _ (by omega) (by decide)).trans en
    have e2 : s 3 2 = s0 3 2 := cm.2.2.2.2.2 _ _ (by omega) (by decide)
    have d := cm.1.2.2.2.2
    have st : ∀ p : Int → Int, y_la p a (b + 1 - a).toNat = if p b = 1 then b else y_la p a (b - a).toNat := fun p => by
      rw [show (b + 1 - a).toNat = (b - a).toNat + 1 by omega, y_la_s, show a + (((b - a).toNat : Nat) : Int) = b by omega]
    refine T_of (fX1_asMany_L8.eq_2 ..) ?_
    refine T_if1 br.1 ?_
    refine T_let 191 br.2.1 ?_
    refine T_if1 v_ob191 ?_
    refine T_let n e1 ?_
    refine T_if0 (show ¬ n ≤ b by omega) ?_
    refine T_if1 br.1 ?_
    refine T_let 191 br.2.1 ?_
    refine T_if1 v_ob191 ?_
    refine T_bI (T_of (e_CMsolid cm ⟨ha.1, h3⟩ (by omega)) (T_rI ?_))
    refine T_ite (fun q => ?_) (fun q => ?_)
    · -- too long already: none of what follows fits
      have far : ∀ i : Int, b ≤ i → i < n → ¬ L a i ≤ len := fun i p r w => by
        have g := y_so_LG (a := a) (b := i) (ln := s0 3 2) d ha.1 (by omega) (by omega) (by rw [← e2]; exact cm.2.2.1)
        rw [hL] at w
        have g2 := y_sum_pt (f := y_sol D) (a := a) (x := b + 1) (y := i + 1) (by omega) (by omega)
        have g3 := y_sum_r (f := y_sol D) (a := b + 1) (m := 2400) (i + 1 - (b + 1)).toNat (fun j p q => y_so_b d (by omega))
        omega
      have eq : ∀ p : Int → Int, (∀ i : Int, b ≤ i → i < n → p i ≠ 1) → y_la p a (n - a).toNat = y_la p a (b - a).toNat := fun p w => by
        rw [show (n - a).toNat = (b - a).toNat + (n - b).toNat by omega]
        exact y_la_n (fun i r t => w i (by omega) (by omega))
      have q1 := eq (y_f1 L len a) (fun i p r => by unfold y_f1; rw [if_neg (far i p r)]; decide)
      have q2 := eq (y_f2 L C len a) (fun i p r => by unfold y_f2; rw [if_neg (fun w => far i p r w.1)]; decide)
      rw [ex, ey, ← q1, ← q2]
      exact hk s cm
    · refine T_if1 br.1 ?_
      refine T_let 220 br.2.2.1 ?_
      refine T_if1 v_220.1 ?_
      refine T_useI (e_CMlen hfu cm ⟨ha.1, h3⟩ (by omega)) (fun v s1 hq => ?_)
      obtain ⟨rfl, cm1⟩ := hq
      refine T_vI ?_
      have e3 : s1 191 16 = n := (cm1.2.2.2.2.2 _ _ (by omega) (by decide)).trans en
      refine T_ite (fun q2 => ?_) (fun q2 => ?_)
      · refine T_of (fX1_asMany_J72.eq_1 ..) ?_
        refine T_let (b + 1) (v_wid (by omega)) ?_
        have n1 : ¬ y_f1 L len a b = 1 := by unfold y_f1; rw [hL, if_neg (by omega)]; decide
        have n2 : ¬ y_f2 L C len a b = 1 := by unfold y_f2; rw [hL, if_neg (fun w => by have := w.1; omega)]; decide
        exact ih F s1 x y (b + 1) (by omega) (by omega) (by omega) cm1 (by rw [st, if_neg n1]; exact ex) (by rw [st, if_neg n2]; exact ey)
      · have y1 : y_f1 L len a b = 1 := by unfold y_f1; rw [hL, if_pos (by omega)]
        refine T_let (b - a) (v_wid (by omega)) ?_
        refine T_let (b - a + 1) (v_wid (by omega)) ?_
        refine T_if1 br.1 ?_
        refine T_bI (T_of (e_CMcloses cm1 ho ⟨by omega, by omega⟩) (T_rI ?_))
        rw [e3]
        have go : ∀ z : Int, z = (if y_la (y_f2 L C len a) a (b + 1 - a).toNat = -1 then 0 else y_la (y_f2 L C len a) a (b + 1 - a).toNat - a + 1) → z_T (fX1_asMany_J70 fu s1 o a len (b - a + 1) b z (fun w v3 v4 v5 => fX1_asMany_L8 fu o a len F w v3 v4 v5 k) k) P := fun z ez => by
          refine T_of (fX1_asMany_J70.eq_1 ..) ?_
          refine T_of (fX1_asMany_J72.eq_1 ..) ?_
          refine T_let (b + 1) (v_wid (by omega)) ?_
          exact ih F s1 _ z (b + 1) (by omega) (by omega) (by omega) cm1 (by rw [st, if_pos y1, if_neg (by omega)]) ez
        refine T_ite (fun q3 => ?_) (fun q3 => ?_)
        · refine go y ?_
          have n2 : ¬ y_f2 L C len a b = 1 := by
            unfold y_f2; rw [if_neg (fun w => by have := w.2; rw [hC] at this; omega)]; decide
          rw [st, if_neg n2]; exact ey
        · refine go (b - a + 1) ?_
          have c1 : C b = 1 := by
            rw [hC]
            unfold y_cl2 at q3 ⊢
            by_cases w : b = n - 1 ∨ E b = 1
            · rw [if_pos w]
            · rw [if_neg w] at q3; exact absurd rfl q3
          have n2 : y_f2 L C len a b = 1 := by
            unfold y_f2; rw [hL, if_pos ⟨by omega, c1⟩]
          rw [st, if_pos n2, if_neg (by omega)]
theorem e_asMany {fu : Nat} (hfu : 8589934592 ≤ fu) {D : z_M} {E : Int → Int} {s0 s : z_M} {o a len : Int} (ho : y_ob4 o) (cm : y_CM D E s0 s) (ha : 0 ≤ a ∧ a < s0 191 16) (hl : len ≤ 100000) :
    z_T (fX1_asMany fu s o a len) (fun v s' => v = vI (y_cm (fun x y => y_LG D x y (s0 3 2)) (y_cl2 E (s0 191 16)) (s0 191 16) len a - a + 1) ∧ y_CM D E s0 s') := by
  have en : s 191 16 = s0 191 16 := cm.2.2.2.2.2 _ _ (by omega) (by decide)
  have n2 := cm.1.1.2
  refine T_of (fX1_asMany.eq_1 ..) ?_
  refine e_asManyL hfu (L := fun x y => y_LG D x y (s0 3 2)) (C := y_cl2 E (s0 191 16)) (n := s0 191 16) ho (fun _ _ => rfl) (fun _ => rfl) rfl ha (by omega) hl (fun s' cm' => ?_) (s0 191 16 - a).toNat fu s 1 0 a (by omega) (by omega) (Int.le_refl _) cm (by rw [show (a - a).toNat = 0 by omega]; rfl) (by rw [show (a - a).toNat = 0 by omega]; rfl)
  have b1 := y_la_b (p := y_f2 (fun x y => y_LG D x y (s0 3 2)) (y_cl2 E (s0 191 16)) len a) ha.1 (s0 191 16 - a).toNat
  have b2 := y_la_b (p := y_f1 (fun x y => y_LG D x y (s0 3 2)) len a) ha.1 (s0 191 16 - a).toNat
  refine T_of (fX1_asMany_J78.eq_1 ..) ?_
  unfold y_cm
  generalize y_la (y_f2 (fun x y => y_LG D x y (s0 3 2)) (y_cl2 E (s0 191 16)) len a) a (s0 191 16 - a).toNat = f2 at *
  generalize y_la (y_f1 (fun x y => y_LG D x y (s0 3 2)) len a) a (s0 191 16 - a).toNat = f1 at *
  by_cases z : f2 = -1
  · rw [if_pos z, if_neg (show ¬ f2 ≠ -1 by omega)]
    refine T_if1 (Int.le_refl 0) ?_
    refine T_of (fX1_asMany_J89.eq_1 ..) ?_
    by_cases z1 : f1 = -1
    · rw [if_pos z1, if_neg (show ¬ f1 ≠ -1 by omega)]
      exact T_ret ⟨by rw [show a - a + 1 = 1 by omega], cm'⟩
    · rw [if_neg z1, if_pos (show f1 ≠ -1 from z1)]
      exact T_ret ⟨rfl, cm'⟩
  · rw [if_neg z, if_pos (show f2 ≠ -1 from z)]
    refine T_if0 (by omega) ?_
    refine T_of (fX1_asMany_J89.eq_1 ..) ?_
    exact T_ret ⟨rfl, cm'⟩
