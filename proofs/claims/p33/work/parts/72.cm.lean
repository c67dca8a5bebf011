/-! The class's measure: rules of rows; trim, spaces, what hangs, gather -/
section TX
variable {P : z_V → z_M → Prop} {fu : Nat} {s : z_M} {k c i n v : Int}
theorem T_putX {f : z_M → z_O} (hr : z_rw k ∧ z_gr k 0 = c ∧ z_ln k = n) (h : 0 ≤ i ∧ i < n) (kk : z_T (f (z_up s c i v)) P) : z_T (z_bN (fX7_put fu s k i v) f) P :=
  T_bN (T_of ((e_put hr.1).trans (by rw [v_rpn hr.2.1 hr.2.2 h])) (T_rN kk))
theorem T_getX {f : Int → z_M → z_O} (hr : z_rw k ∧ z_gr k 0 = c ∧ z_ln k = n) (h : 0 ≤ i ∧ i < n) (kk : z_T (f (s c i) s) P) : z_T (z_bI (fX7_get fu s k i) f) P :=
  T_bI (T_of ((e_get hr.1).trans (by rw [v_rgn hr.2.1 hr.2.2 h])) (T_rI kk))
theorem T_addX {f : z_M → z_O} (hr : z_rw k ∧ z_gr k 0 = c ∧ z_ln k = n) (h : 0 ≤ i ∧ i < n) (kk : z_T (f (z_up s c i (z_w (s c i + v)))) P) : z_T (z_bN (fX7_add fu s k i v) f) P :=
  T_bN (T_of ((e_add hr.1).trans (by rw [v_rgn hr.2.1 hr.2.2 h, v_rpn hr.2.1 hr.2.2 h])) (T_rN kk))
/-- outside of a row 0 is read -/
theorem z_up_k2 {s : z_M} {k j x a b : Int} (h : ¬ (a = k ∧ b = j)) : z_up s k j x a b = s a b := if_neg h
theorem v_rg0 {s : z_M} {k i : Int} (h : ¬ (0 ≤ i ∧ i < z_ln k)) : z_rg s k i = 0 := if_neg h
end TX
/-- an object of blocks: that of the measure, that of the layout -/
def y_ob2 (o : Int) : Prop := o = 223 ∨ o = 279
theorem v_o {o : Int} (h : y_ob2 o) : z_ob o 0 ∧ z_gr o 0 = 191 ∧ z_gr o 1 = o + 1 ∧ z_gr o 2 = o + 3 ∧ z_gr o 3 = o + 5 ∧ z_gr o 4 = o + 7 ∧ z_gr o 5 = o + 9 ∧ z_gr o 6 = o + 11 ∧ z_gr o 7 = o + 13 ∧ z_gr o 8 = o + 15 := by
  rcases h with rfl | rfl <;> decide +kernel
theorem v_o1 {o : Int} (h : y_ob2 o) : z_rw (o + 1) ∧ z_gr (o + 1) 0 = o + 2 ∧ z_ln (o + 1) = 200 := by rcases h with rfl | rfl <;> decide +kernel
theorem v_o3 {o : Int} (h : y_ob2 o) : z_rw (o + 3) ∧ z_gr (o + 3) 0 = o + 4 ∧ z_ln (o + 3) = 200 := by rcases h with rfl | rfl <;> decide +kernel
theorem v_o5 {o : Int} (h : y_ob2 o) : z_rw (o + 5) ∧ z_gr (o + 5) 0 = o + 6 ∧ z_ln (o + 5) = 200 := by rcases h with rfl | rfl <;> decide +kernel
theorem v_o7 {o : Int} (h : y_ob2 o) : z_rw (o + 7) ∧ z_gr (o + 7) 0 = o + 8 ∧ z_ln (o + 7) = 200 := by rcases h with rfl | rfl <;> decide +kernel
theorem v_o9 {o : Int} (h : y_ob2 o) : z_rw (o + 9) ∧ z_gr (o + 9) 0 = o + 10 ∧ z_ln (o + 9) = 200 := by rcases h with rfl | rfl <;> decide +kernel
theorem v_o11 {o : Int} (h : y_ob2 o) : z_rw (o + 11) ∧ z_gr (o + 11) 0 = o + 12 ∧ z_ln (o + 11) = 200 := by rcases h with rfl | rfl <;> decide +kernel
theorem v_o13 {o : Int} (h : y_ob2 o) : z_rw (o + 13) ∧ z_gr (o + 13) 0 = o + 14 ∧ z_ln (o + 13) = 200 := by rcases h with rfl | rfl <;> decide +kernel
theorem v_o15 {o : Int} (h : y_ob2 o) : z_rw (o + 15) ∧ z_gr (o + 15) 0 = o + 16 ∧ z_ln (o + 15) = 200 := by rcases h with rfl | rfl <;> decide +kernel
theorem v_k192 : z_rw 192 ∧ z_gr 192 0 = 193 ∧ z_ln 192 = 200 := ⟨v_rw192, v_c192, v_l192⟩
theorem v_220 : z_ob 220 5 ∧ z_gr 220 0 = 191 ∧ z_gr 220 1 = 2 ∧ z_gr 220 2 = 223 ∧ z_gr 220 3 = 221 := by decide +kernel
theorem v_r221 : z_rw 221 ∧ z_gr 221 0 = 222 ∧ z_ln 221 = 20100 := by decide +kernel
/-- the class's units, as D tells them -/
def y_CU2 (D s : z_M) : Prop := (0 ≤ s 191 16 ∧ s 191 16 ≤ 200) ∧ s 3 6 = D 5 0 ∧ (∀ u : Int, 0 ≤ u → u < s 191 16 → s 193 u = D 0 u ∧ s 199 u = D 1 u ∧ (D 0 u = 7 → s 201 u = D 2 u ∧ s 203 u = D 3 u ∧ s 205 u = D 4 u) ∧ (D 0 u ≠ 7 → s 201 u = -1)) ∧
  (∀ v : Int, 0 ≤ v → v ≤ s 191 16 → s 211 v = y_sum (D 1) 0 v.toNat) ∧ y_DF D (s 191 16)
theorem y_CU2.fr {D s s' : z_M} (h : y_CU2 D s) (e : s' 191 16 = s 191 16) (e3 : s' 3 6 = s 3 6) (f : ∀ a b : Int, 193 ≤ a → a ≤ 211 → s' a b = s a b) : y_CU2 D s' := by
  obtain ⟨h1, h2, h3, h4, h5⟩ := h
  refine ⟨by rw [e]; exact h1, e3.trans h2, fun u p q => ?_, fun v p q => ?_, by rw [e]; exact h5⟩
  · rw [f 193 u (by decide) (by decide), f 199 u (by decide) (by decide), f 201 u (by decide) (by decide), f 203 u (by decide) (by decide), f 205 u (by decide) (by decide)]
    exact h3 u p (by omega)
  · rw [f 211 v (by decide) (by decide)]
    exact h4 v p (by omega)
/-- the two loops of trim -/
theorem e_trim1 {fu : Nat} {D : z_M} {t n : Int} {s0 : z_M} {k : z_M → z_O} {P : z_V → z_M → Prop} (hn : n ≤ 200) (hK : ∀ u : Int, 0 ≤ u → u < n → s0 193 u = D 0 u) (ht : t < n) (hk : ∀ s' : z_M, s' 220 4 = y_ik (D 0) t (t + 1 - s0 220 4).toNat (s0 220 4) → (∀ a b : Int, ¬ (a = 220 ∧ b = 4) → s' a b = s0 a b) → z_T (k s') P) :
    ∀ (m F : Nat) (s : z_M), (m : Int) ≥ t + 1 - s 220 4 → m < F → 0 ≤ s 220 4 → s 220 5 = t → y_ik (D 0) t (t + 1 - s 220 4).toNat (s 220 4) = y_ik (D 0) t (t + 1 - s0 220 4).toNat (s0 220 4) → (∀ a b : Int, ¬ (a = 220 ∧ b = 4) → s a b = s0 a b) → z_T (fX5_trim_L10 fu 220 F s k) P := by
  intro m
  induction m with
  | zero =>
    intro F s h1 hF h0 h5 e f
    obtain ⟨F, rfl⟩ : ∃ F2, F = F2 + 1 := ⟨F - 1, by omega⟩
    refine T_of (fX5_trim_L10.eq_2 ..) ?_
    refine T_if1 v_220.1 ?_
    refine T_let (s 220 4) rfl ?_
    refine T_if1 v_220.1 ?_
    refine T_let t h5 ?_
    refine T_if1 (by omega) ?_
    refine hk s ?_ f
    rw [← e, show (t + 1 - s 220 4).toNat = 0 by omega]; rfl
  | succ m ih =>
    intro F s h1 hF h0 h5 e f
    obtain ⟨F, rfl⟩ : ∃ F2, F = F2 + 1 := ⟨F - 1, by omega⟩
    refine T_of (fX5_trim_L10.eq_2 ..) ?_
    refine T_if1 v_220.1 ?_
    refine T_let (s 220 4) rfl ?_
    refine T_if1 v_220.1 ?_
    refine T_let t h5 ?_
    refine T_ite (fun q => ?_) (fun q => ?_)
    · refine hk s ?_ f
      rw [← e, show (t + 1 - s 220 4).toNat = 0 by omega]; rfl
    · refine T_if1 v_220.1 ?_
      refine T_let 191 v_220.2.1 ?_
      refine T_if1 v_ob191 ?_
      refine T_let 192 v_g2 ?_
      refine T_if1 v_220.1 ?_
      refine T_let (s 220 4) rfl ?_
      refine T_if1 v_rw192.1 ?_
      refine T_getX v_k192 ⟨h0, by omega⟩ ?_
      have eK : s 193 (s 220 4) = D 0 (s 220 4) := by rw [f 193 _ (by omega)]; exact hK _ h0 (by omega)
      obtain ⟨d, hd⟩ : ∃ d, (t + 1 - s 220 4).toNat = d + 1 := ⟨(t + 1 - s 220 4).toNat - 1, by omega⟩
      rw [hd, y_ik_e, if_pos (by omega)] at e
      refine T_ite (fun q2 => ?_) (fun q2 => ?_)
      · refine hk s ?_ f
        rw [if_neg (by omega)] at e
        exact e
      · refine T_if1 v_220.1 ?_
        refine T_let (s 220 4) rfl ?_
        refine T_let (s 220 4 + 1) (v_wid (by omega)) ?_
        refine T_if1 v_220.1 ?_
        refine T_up ?_
        rw [if_pos (by omega)] at e
        refine ih F _ (by rw [z_up_s]; omega) (by omega) (by rw [z_up_s]; omega) (by rw [z_up_j (by decide)]; exact h5) ?_ (fun a b q => ?_)
        · rw [z_up_s, show (t + 1 - (s 220 4 + 1)).toNat = d by omega]; exact e
        · by_cases z : a = 220
          · subst z
            rw [z_up_j (fun y => q ⟨rfl, y⟩)]; exact f _ _ q
          · rw [z_up_k z]; exact f _ _ q
theorem e_trim2 {fu : Nat} {D : z_M} {g n : Int} {s0 : z_M} {k : z_M → z_O} {P : z_V → z_M → Prop} (hn : n ≤ 200) (hK : ∀ u : Int, 0 ≤ u → u < n → s0 193 u = D 0 u) (hg : 0 ≤ g) (hk : ∀ s' : z_M, s' 220 5 = y_lk (D 0) g (s0 220 5 + 1 - g).toNat (s0 220 5) → (∀ a b : Int, ¬ (a = 220 ∧ b = 5) → s' a b = s0 a b) → z_T (k s') P) :
    ∀ (m F : Nat) (s : z_M), (m : Int) ≥ s 220 5 + 1 - g → m < F → s 220 5 < n → s 220 4 = g → y_lk (D 0) g (s 220 5 + 1 - g).toNat (s 220 5) = y_lk (D 0) g (s0 220 5 + 1 - g).toNat (s0 220 5) → (∀ a b : Int, ¬ (a = 220 ∧ b = 5) → s a b = s0 a b) → z_T (fX5_trim_L53 fu 220 F s k) P := by
  intro m
  induction m with
  | zero =>
    intro F s h1 hF h0 h4 e f
    obtain ⟨F, rfl⟩ : ∃ F2, F = F2 + 1 := ⟨F - 1, by omega⟩
    refine T_of (fX5_trim_L53.eq_2 ..) ?_
    refine T_if1 v_220.1 ?_
    refine T_let g h4 ?_
    refine T_if1 v_220.1 ?_
    refine T_let (s 220 5) rfl ?_
    refine T_if1 (by omega) ?_
    refine hk s ?_ f
    rw [← e, show (s 220 5 + 1 - g).toNat = 0 by omega]; rfl
  | succ m ih =>
    intro F s h1 hF h0 h4 e f
    obtain ⟨F, rfl⟩ : ∃ F2, F = F2 + 1 := ⟨F - 1, by omega⟩
    refine T_of (fX5_trim_L53.eq_2 ..) ?_
    refine T_if1 v_220.1 ?_
    refine T_let g h4 ?_
    refine T_if1 v_220.1 ?_
    refine T_let (s 220 5) rfl ?_
    refine T_ite (fun q => ?_) (fun q => ?_)
    · refine hk s ?_ f
      rw [← e, show (s 220 5 + 1 - g).toNat = 0 by omega]; rfl
    · refine T_if1 v_220.1 ?_
      refine T_let 191 v_220.2.1 ?_
      refine T_if1 v_ob191 ?_
      refine T_let 192 v_g2 ?_
      refine T_if1 v_220.1 ?_
      refine T_let (s 220 5) rfl ?_
      refine T_if1 v_rw192.1 ?_
      refine T_getX v_k192 ⟨by omega, by omega⟩ ?_
      have eK : s 193 (s 220 5) = D 0 (s 220 5) := by rw [f 193 _ (by omega)]; exact hK _ (by omega) h0
      obtain ⟨d, hd⟩ : ∃ d, (s 220 5 + 1 - g).toNat = d + 1 := ⟨(s 220 5 + 1 - g).toNat - 1, by omega⟩
      rw [hd, y_lk_e, if_pos (by omega)] at e
      refine T_ite (fun q2 => ?_) (fun q2 => ?_)
      · refine hk s ?_ f
        rw [if_neg (by omega)] at e
        exact e
      · refine T_if1 v_220.1 ?_
        refine T_let (s 220 5) rfl ?_
        refine T_let (s 220 5 - 1) (v_wid (by omega)) ?_
        refine T_if1 v_220.1 ?_
        refine T_up ?_
        rw [if_pos (by omega)] at e
        refine ih F _ (by rw [z_up_s]; omega) (by omega) (by rw [z_up_s]; omega) (by rw [z_up_j (by decide)]; exact h4) ?_ (fun a b q => ?_)
        · rw [z_up_s, show (s 220 5 - 1 + 1 - g).toNat = d by omega]; exact e
        · by_cases z : a = 220
          · subst z
            rw [z_up_j (fun y => q ⟨rfl, y⟩)]; exact f _ _ q
          · rw [z_up_k z]; exact f _ _ q
theorem y_ik_b {K : Int → Int} {b : Int} : ∀ (m : Nat) (i : Int), (m : Int) = b + 1 - i → i ≤ y_ik K b m i ∧ y_ik K b m i ≤ b + 1 ∧ (∀ j : Int, i ≤ j → j < y_ik K b m i → K j = 6) ∧ (y_ik K b m i ≤ b → K (y_ik K b m i) ≠ 6) := by
  intro m
  induction m with
  | zero => intro i h; exact ⟨Int.le_refl _, by show i ≤ b + 1; omega, fun j p q => by have q2 : j < i := q; omega, fun q => by have q2 : i ≤ b := q; omega⟩
  | succ m ih =>
    intro i h
    rw [y_ik_e, if_pos (by omega)]
    by_cases q : K i = 6
    · rw [if_pos q]
      obtain ⟨a1, a2, a3, a4⟩ := ih (i + 1) (by omega)
      refine ⟨by omega, a2, fun j p r => ?_, a4⟩
      by_cases z : j = i
      · rw [z]; exact q
      · exact a3 j (by omega) r
    · rw [if_neg q]
      exact ⟨Int.le_refl _, by omega, fun j p r => by omega, fun _ => q⟩
theorem y_lk_b {K : Int → Int} {f : Int} : ∀ (m : Nat) (j : Int), (m : Int) = j + 1 - f → y_lk K f m j ≤ j ∧ f - 1 ≤ y_lk K f m j ∧ (∀ i : Int, y_lk K f m j < i → i ≤ j → K i = 6) ∧ (f ≤ y_lk K f m j → K (y_lk K f m j) ≠ 6) := by
  intro m
  induction m with
  | zero => intro j h; exact ⟨Int.le_refl _, by show f - 1 ≤ j; omega, fun i p q => by have q2 : j < i := p; omega, fun q => by have q2 : f ≤ j := q; omega⟩
  | succ m ih =>
    intro j h
    rw [y_lk_e, if_pos (by omega)]
    by_cases q : K j = 6
    · rw [if_pos q]
      obtain ⟨a1, a2, a3, a4⟩ := ih (j - 1) (by omega)
      refine ⟨by omega, a2, fun i p r => ?_, a4⟩
      by_cases z : i = j
      · rw [z]; exact q
      · exact a3 i p (by omega)
    · rw [if_neg q]
      exact ⟨Int.le_refl _, by omega, fun i p r => by omega, fun _ => q⟩
/-- the ends of a line without blanks -/
theorem y_ft {D : z_M} {a b : Int} (h : a ≤ b + 1) : (a ≤ y_fr D a b ∧ y_fr D a b ≤ b + 1) ∧ (y_to D a b ≤ b ∧ y_fr D a b - 1 ≤ y_to D a b) ∧ (∀ j : Int, a ≤ j → j < y_fr D a b → D 0 j = 6) ∧ (∀ j : Int, y_to D a b < j → j ≤ b → D 0 j = 6) ∧ (y_fr D a b ≤ b → D 0 (y_fr D a b) ≠ 6 ∧ D 0 (y_to D a b) ≠ 6 ∧ y_fr D a b ≤ y_to D a b) ∧ (y_fr D a b = b + 1 → y_to D a b = b) := by
  have h1 := y_ik_b (K := D 0) (b := b) (b + 1 - a).toNat a (by omega)
  have e1 : y_fr D a b = y_ik (D 0) b (b + 1 - a).toNat a := rfl
  rw [← e1] at h1
  have h2 := y_lk_b (K := D 0) (f := y_fr D a b) (b + 1 - y_fr D a b).toNat b (by omega)
  have e2 : y_to D a b = y_lk (D 0) (y_fr D a b) (b + 1 - y_fr D a b).toNat b := rfl
  rw [← e2] at h2
  obtain ⟨a1, a2, a3, a4⟩ := h1
  obtain ⟨b1, b2, b3, b4⟩ := h2
  refine ⟨⟨a1, a2⟩, ⟨b1, b2⟩, a3, b3, fun q => ?_, fun q => ?_⟩
  · have g : y_fr D a b ≤ y_to D a b := by
      by_cases z : y_fr D a b ≤ y_to D a b
      · exact z
      · exact absurd (b3 (y_fr D a b) (by omega) q) (a4 q)
    exact ⟨a4 q, b4 g, g⟩
  · rw [e2, q, show (b + 1 - (b + 1)).toNat = 0 by omega]; rfl
theorem e_trim {fu : Nat} (hfu : 8589934592 ≤ fu) {D s : z_M} (h : y_CU2 D s) {a b : Int} (h0 : 0 ≤ a ∧ a ≤ b + 1) (h1 : b < s 191 16) : z_T (fX5_trim fu s 220 a b) (fun v s' => v = vN ∧ s' 220 4 = y_fr D a b ∧ s' 220 5 = y_to D a b ∧ ∀ x y : Int, ¬ (x = 220 ∧ (y = 4 ∨ y = 5)) → s' x y = s x y) := by
  have n2 := h.1.2
  refine T_of (fX5_trim.eq_1 ..) ?_
  refine T_if1 v_220.1 ?_
  refine T_up ?_
  refine T_if1 v_220.1 ?_
  refine T_up ?_
  have hK : ∀ u : Int, 0 ≤ u → u < s 191 16 → z_up (z_up s 220 4 a) 220 5 b 193 u = D 0 u := fun u p q => by
    rw [z_up_k (by decide), z_up_k (by decide)]; exact (h.2.2.1 u p q).1
  have e4 : z_up (z_up s 220 4 a) 220 5 b 220 4 = a := by rw [z_up_j (by decide), z_up_s]
  have e5 : z_up (z_up s 220 4 a) 220 5 b 220 5 = b := z_up_s
  have ef : ∀ x y : Int, ¬ (x = 220 ∧ (y = 4 ∨ y = 5)) → z_up (z_up s 220 4 a) 220 5 b x y = s x y := fun x y q => by
    by_cases z : x = 220
    · subst z
      rw [z_up_j (fun w => q ⟨rfl, Or.inr w⟩), z_up_j (fun w => q ⟨rfl, Or.inl w⟩)]
    · rw [z_up_k z, z_up_k z]
  generalize z_up (z_up s 220 4 a) 220 5 b = s1 at hK e4 e5 ef
  refine e_trim1 (D := D) (t := b) (n := s 191 16) (s0 := s1) n2 hK h1 (fun s2 g4 f2 => ?_) (b + 1 - a).toNat fu s1 (by omega) (by omega) (by omega) e5 rfl (fun _ _ _ => rfl)
  rw [e4] at g4
  have g4' : s2 220 4 = y_fr D a b := g4
  have g5 : s2 220 5 = b := (f2 _ _ (by omega)).trans e5
  have ft := y_ft (D := D) h0.2
  refine e_trim2 (D := D) (g := y_fr D a b) (n := s 191 16) (s0 := s2) n2 (fun u p q => by rw [f2 193 u (by omega)]; exact hK u p q) (by omega) (fun s3 g6 f3 => ?_) (b + 1 - y_fr D a b).toNat fu s2 (by omega) (by omega) (by omega) g4' rfl (fun _ _ _ => rfl)
  rw [g5] at g6
  refine T_of (fX5_trim_J96.eq_1 ..) ?_
  exact T_ret ⟨rfl, (f3 _ _ (by omega)).trans g4', g6, fun x y q => (f3 x y (fun w => q ⟨w.1, Or.inr w.2⟩)).trans ((f2 x y (fun w => q ⟨w.1, Or.inl w.2⟩)).trans (ef x y q))⟩
