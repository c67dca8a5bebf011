/-! UNITS of the class: what their rows hold -/
theorem v_rgn {s : z_M} {k c i n : Int} (hc : z_gr k 0 = c) (l : z_ln k = n) (h : 0 ≤ i ∧ i < n) : z_rg s k i = s c i := by
  rw [z_rg_in ⟨h.1, by rw [l]; exact h.2⟩, hc]
theorem v_rpn {s : z_M} {k c i v n : Int} (hc : z_gr k 0 = c) (l : z_ln k = n) (h : 0 ≤ i ∧ i < n) : z_rp s k i v = z_up s c i v := by
  rw [z_rp_in ⟨h.1, by rw [l]; exact h.2⟩, hc]
theorem v_u1 : z_gr 191 1 = 2 := by decide +kernel
theorem v_u5 : z_gr 191 5 = 198 := by decide +kernel
theorem v_u6 : z_gr 191 6 = 200 := by decide +kernel
theorem v_u7 : z_gr 191 7 = 202 := by decide +kernel
theorem v_u8 : z_gr 191 8 = 204 := by decide +kernel
theorem v_u9 : z_gr 191 9 = 206 := by decide +kernel
theorem v_u10 : z_gr 191 10 = 208 := by decide +kernel
theorem v_u11 : z_gr 191 11 = 210 := by decide +kernel
theorem v_u12 : z_gr 191 12 = 212 := by decide +kernel
theorem v_u14 : z_gr 191 14 = 216 := by decide +kernel
theorem v_u15 : z_gr 191 15 = 218 := by decide +kernel
theorem v_s2 : z_rw 2 ∧ z_gr 2 0 = 3 ∧ z_ln 2 = 9 := by decide +kernel
theorem v_r198 : z_rw 198 ∧ z_gr 198 0 = 199 ∧ z_ln 198 = 200 := by decide +kernel
theorem v_r200 : z_rw 200 ∧ z_gr 200 0 = 201 ∧ z_ln 200 = 200 := by decide +kernel
theorem v_r202 : z_rw 202 ∧ z_gr 202 0 = 203 ∧ z_ln 202 = 200 := by decide +kernel
theorem v_r204 : z_rw 204 ∧ z_gr 204 0 = 205 ∧ z_ln 204 = 200 := by decide +kernel
theorem v_r206 : z_rw 206 ∧ z_gr 206 0 = 207 ∧ z_ln 206 = 200 := by decide +kernel
theorem v_r208 : z_rw 208 ∧ z_gr 208 0 = 209 ∧ z_ln 208 = 200 := by decide +kernel
theorem v_r210 : z_rw 210 ∧ z_gr 210 0 = 211 ∧ z_ln 210 = 201 := by decide +kernel
theorem v_r212 : z_rw 212 ∧ z_gr 212 0 = 213 ∧ z_ln 212 = 201 := by decide +kernel
theorem v_r216 : z_rw 216 ∧ z_gr 216 0 = 217 ∧ z_ln 216 = 200 := by decide +kernel
theorem v_r218 : z_rw 218 ∧ z_gr 218 0 = 219 ∧ z_ln 218 = 200 := by decide +kernel
theorem v_t45 : z_gr 6 4 = 15 ∧ z_gr 6 5 = 17 := by decide +kernel
theorem v_r15 : z_lr 15 ∧ z_gr 15 0 = 16 ∧ z_ln 15 = 200 := by decide +kernel
theorem v_r17 : z_lr 17 ∧ z_gr 17 0 = 18 ∧ z_ln 17 = 200 := by decide +kernel
/-- a number whose digits share a place -/
def y_ac (s : z_M) (u : Int) : Int := if s 193 u = 2 ∧ s 3 5 = 1 ∧ s 197 u ≤ s 3 1 then 1 else 0
theorem y_ac_01 {s : z_M} {u : Int} : y_ac s u = 0 ∨ y_ac s u = 1 := by
  unfold y_ac
  split
  · exact Or.inr rfl
  · exact Or.inl rfl
theorem e_isAcross {fu : Nat} {s : z_M} {u : Int} (h : 0 ≤ u ∧ u < 200) : fX10_isAcross fu s 191 u = some (vI (y_ac s u), s) := by
  unfold fX10_isAcross fX10_isAcross_J47 fX10_isAcross_J48
  simp only [z_let, if_pos v_ob191, v_g2, v_u1, v_g4, if_pos v_rw192.1, if_pos v_s2.1.1, if_pos v_rw196.1, e_get v_rw192, e_get v_s2.1, e_get v_rw196, v_rg v_c192 v_l192 h, v_rg v_c196 v_l196 h, v_rgn v_s2.2.1 v_s2.2.2 (show (0 : Int) ≤ 5 ∧ (5 : Int) < 9 by decide), v_rgn v_s2.2.1 v_s2.2.2 (show (0 : Int) ≤ 1 ∧ (1 : Int) < 9 by decide), zb_I, if_pos bl1, if_pos bl0]
  unfold y_ac
  by_cases h1 : s 193 u = 2
  · rw [if_neg (fun q => q h1)]
    by_cases h2 : s 3 5 = 1
    · rw [if_neg (fun q => q h2)]
      by_cases h3 : s 3 1 < s 197 u
      · rw [if_pos h3, if_neg (by omega)]
      · rw [if_neg h3, if_pos ⟨h1, h2, by omega⟩]
    · rw [if_pos h2, if_neg (fun q => h2 q.2.1)]
  · rw [if_pos h1, if_neg (fun q => h1 q.1)]
def y_tn (s : z_M) (k ac : Int) : Int := if (k = 1 ∨ (k = 2 ∧ ac = 0) ∨ k = 4 ∨ k = 5) ∧ s 3 5 = 1 then 1 else 0
theorem e_isTurned {fu : Nat} {s : z_M} {k ac : Int} : fX10_isTurned fu s 191 k ac = some (vI (y_tn s k ac), s) := by
  have e1 : fX10_isTurned_J29 fu s 191 1 = some (vI (if s 3 5 = 1 then 1 else 0), s) := by
    unfold fX10_isTurned_J29 fX10_isTurned_J50 fX10_isTurned_J51
    rw [if_neg (by decide)]
    simp only [z_let, if_pos v_ob191, v_u1, if_pos v_s2.1.1, e_get v_s2.1, v_rgn v_s2.2.1 v_s2.2.2 (show (0 : Int) ≤ 5 ∧ (5 : Int) < 9 by decide), zb_I, if_pos bl1, if_pos bl0]
    by_cases h2 : s 3 5 = 1
    · rw [if_neg (fun q => q h2), if_pos h2]
    · rw [if_pos h2, if_neg h2]
  have e0 : fX10_isTurned_J29 fu s 191 0 = some (vI 0, s) := by
    unfold fX10_isTurned_J29 fX10_isTurned_J50 fX10_isTurned_J51
    rw [if_pos rfl, if_pos bl0]
  unfold fX10_isTurned fX10_isTurned_J24 fX10_isTurned_J14 fX10_isTurned_J24 y_tn
  rw [e1, e0]
  by_cases h2 : s 3 5 = 1
  · rw [if_pos h2]
    by_cases k1 : k = 1
    · rw [if_pos k1, if_pos ⟨Or.inl k1, h2⟩]
    · rw [if_neg k1]
      by_cases k2 : k = 2
      · rw [if_neg (fun q => q k2)]
        by_cases k3 : ac = 0
        · rw [if_pos k3, if_pos ⟨Or.inr (Or.inl ⟨k2, k3⟩), h2⟩]
        · rw [if_neg k3, if_neg (by omega), if_pos (by omega), if_neg (by omega)]
      · rw [if_pos k2]
        by_cases k4 : k = 4
        · rw [if_pos k4, if_pos ⟨Or.inr (Or.inr (Or.inl k4)), h2⟩]
        · rw [if_neg k4]
          by_cases k5 : k = 5
          · rw [if_neg (fun q => q k5), if_pos ⟨Or.inr (Or.inr (Or.inr k5)), h2⟩]
          · rw [if_pos k5, if_neg (by omega)]
  · have r : (if (k = 1 ∨ (k = 2 ∧ ac = 0) ∨ k = 4 ∨ k = 5) ∧ s 3 5 = 1 then (1 : Int) else 0) = 0 := if_neg (fun q => h2 q.2)
    rw [if_neg h2, r]
    by_cases k1 : k = 1
    · rw [if_pos k1]
    · rw [if_neg k1]
      by_cases k2 : k = 2
      · rw [if_neg (fun q => q k2)]
        by_cases k3 : ac = 0
        · rw [if_pos k3]
        · rw [if_neg k3, if_neg (by omega), if_pos (by omega)]
      · rw [if_pos k2]
        by_cases k4 : k = 4
        · rw [if_pos k4]
        · rw [if_neg k4]
          by_cases k5 : k = 5
          · rw [if_neg (fun q => q k5)]
          · rw [if_pos k5]
/-- how long a sign is by itself -/
def y_sl (k c : Int) : Int := if k = 0 ∨ k = 7 then 12 else if c = 105 ∨ c = 106 ∨ c = 108 ∨ k = 6 then 4 else if c = 109 ∨ c = 119 then 9 else 6
theorem y_sl_b {k c : Int} : 4 ≤ y_sl k c ∧ y_sl k c ≤ 12 := by
  unfold y_sl
  split
  · decide
  · split
    · decide
    · split <;> decide
theorem e_longOfSign {fu : Nat} {s : z_M} {k c : Int} : fX10_longOfSign fu s k c = some (vI (y_sl k c), s) := by
  unfold fX10_longOfSign fX10_longOfSign_J10 fX10_longOfSign_J37 fX10_longOfSign_J51 fX10_longOfSign_J58 y_sl
  by_cases k0 : k = 0
  · rw [if_pos k0, if_pos (Or.inl k0)]
  · rw [if_neg k0]
    by_cases k7 : k = 7
    · rw [if_neg (fun q => q k7), if_pos (Or.inr k7)]
    · rw [if_pos k7, if_neg (show ¬ (k = 0 ∨ k = 7) by omega)]
      by_cases c1 : c = 105
      · rw [if_pos c1, if_pos (Or.inl c1)]
      · rw [if_neg c1]
        by_cases c2 : c = 106
        · rw [if_pos c2, if_pos (Or.inr (Or.inl c2))]
        · rw [if_neg c2]
          by_cases c3 : c = 108
          · rw [if_pos c3, if_pos (Or.inr (Or.inr (Or.inl c3)))]
          · rw [if_neg c3]
            by_cases k6 : k = 6
            · rw [if_neg (fun q => q k6), if_pos (Or.inr (Or.inr (Or.inr k6)))]
            · rw [if_pos k6, if_neg (show ¬ (c = 105 ∨ c = 106 ∨ c = 108 ∨ k = 6) by omega)]
              by_cases c4 : c = 109
              · rw [if_pos c4, if_pos (Or.inl c4)]
              · rw [if_neg c4]
                by_cases c5 : c = 119
                · rw [if_neg (fun q => q c5), if_pos (Or.inr c5)]
                · rw [if_pos c5, if_neg (show ¬ (c = 109 ∨ c = 119) by omega)]
/-- letters of a sign on a side -/
theorem e_letterCount {fu : Nat} {s : z_M} {d i : Int} (hd : d = 0 ∨ d = 1) (h : 0 ≤ i ∧ i < 200) : fX9_letterCount fu s 6 d i = some (vI ((if d = 0 then s 16 i else s 18 i) % 16), s) := by
  have w : ∀ x : Int, z_w (z_landl x 15) = x % 16 := fun x => by rw [z_land16]; exact z_wid (by unfold z_I; omega)
  have zbR : ∀ (x : Int) (f : Int → z_M → z_O), z_bR (some (vR x, s)) f = f x s := fun _ _ => rfl
  unfold fX9_letterCount fX9_readings fX9_readings_J15
  rcases hd with rfl | rfl
  · simp only [z_let, if_pos v_ob6, v_t45.1, if_neg (show ¬ (0 : Int) ≠ 0 by decide), zbR, if_pos v_r15.1.1, e_lget v_r15.1, zb_L, w, v_rgn v_r15.2.1 v_r15.2.2 h, if_true]
  · simp only [z_let, if_pos v_ob6, v_t45.2, if_pos (show (1 : Int) ≠ 0 by decide), zbR, if_pos v_r17.1.1, e_lget v_r17.1, zb_L, w, v_rgn v_r17.2.1 v_r17.2.2 h, if_neg (show ¬ (1 : Int) = 0 by decide)]
/-- sums -/
def y_sum (f : Int → Int) (a : Int) : Nat → Int
  | 0 => 0
  | n + 1 => y_sum f a n + f (a + n)
theorem y_sum_b {f : Int → Int} {a : Int} (h : ∀ i, 0 ≤ f i ∧ f i ≤ 12) : ∀ n : Nat, 0 ≤ y_sum f a n ∧ y_sum f a n ≤ 12 * n := by
  intro n
  induction n with
  | zero => exact ⟨Int.le_refl 0, Int.le_refl 0⟩
  | succ n ih =>
    have := h (a + n)
    show 0 ≤ y_sum f a n + f (a + n) ∧ y_sum f a n + f (a + n) ≤ 12 * ((n + 1 : Nat) : Int)
    omega
theorem y_sum_cg {f f' : Int → Int} {a : Int} : ∀ n : Nat, (∀ i : Int, a ≤ i → i < a + n → f i = f' i) → y_sum f a n = y_sum f' a n := by
  intro n
  induction n with
  | zero => intro _; rfl
  | succ n ih =>
    intro h
    show y_sum f a n + f (a + n) = y_sum f' a n + f' (a + n)
    rw [ih (fun i p q => h i p (by omega)), h _ (by omega) (by omega)]
theorem y_sum_add {f : Int → Int} {a : Int} (m : Nat) : ∀ n : Nat, y_sum f a (m + n) = y_sum f a m + y_sum f (a + m) n := by
  intro n
  induction n with
  | zero => show y_sum f a m = y_sum f a m + 0; omega
  | succ n ih =>
    show y_sum f a (m + n) + f (a + ((m + n : Nat) : Int)) = y_sum f a m + (y_sum f (a + m) n + f (a + m + n))
    rw [ih, show a + ((m + n : Nat) : Int) = a + m + n by omega]
    omega
def y_one1 (ac k c : Int) : Int := if ac = 0 then y_sl k c else 12
theorem y_one1_b {ac k c : Int} : 0 ≤ y_one1 ac k c ∧ y_one1 ac k c ≤ 12 := by
  have := y_sl_b (k := k) (c := c)
  unfold y_one1
  split <;> omega
theorem e_mu96 {fu : Nat} {s : z_M} {u A Z ac tn t i one : Int} {r : z_M → Int → Int → z_O} {k : z_M → Int → z_O} (h : 0 ≤ i ∧ i < 200) (ht : 0 ≤ t ∧ t ≤ 100000) (ho : 0 ≤ one ∧ one ≤ 12) : fX10_measureUnit_J96 fu s 191 u A Z ac tn t i one r k = r (z_up (z_up s 217 i one) 219 i tn) (t + one) (i + 1) := by
  unfold fX10_measureUnit_J96
  simp only [z_let, if_pos v_ob191, v_u14, v_u15, if_pos v_r216.1.1, if_pos v_r218.1.1, e_put v_r216.1, e_put v_r218.1, zb_N, v_rp v_r216.2.1 v_r216.2.2 h, v_rp v_r218.2.1 v_r218.2.2 h, z_wid (show z_I (t + one) by unfold z_I; omega), z_wid (show z_I (i + 1) by unfold z_I; omega)]
theorem e_muL {fu : Nat} {u A Z ac tn K : Int} {C : Int → Int} {s0 : z_M} {k : z_M → Int → z_O} {P : z_V → z_M → Prop} (hu : 0 ≤ u ∧ u < 200) (hA : 0 ≤ A) (hZ : 0 ≤ Z) (hAZ : A + Z ≤ 200) (hac : ac = 0 ∨ ac = 1)
    (hk : ∀ s' : z_M, (∀ i : Int, A ≤ i → i < A + Z → s' 217 i = y_one1 ac K (C i) ∧ s' 219 i = tn) → (∀ a b : Int, ¬ ((a = 217 ∨ a = 219) ∧ A ≤ b ∧ b < A + Z) → s' a b = s0 a b) → z_T (k s' (y_sum (fun i => y_one1 ac K (C i)) A Z.toNat)) P) :
    ∀ (m F : Nat) (s : z_M) (t i : Int), (m : Int) = A + Z - i → m < F → A ≤ i → t = y_sum (fun i => y_one1 ac K (C i)) A (i - A).toNat → (∀ j : Int, A ≤ j → j < i → s 217 j = y_one1 ac K (C j) ∧ s 219 j = tn) → (∀ a b : Int, ¬ ((a = 217 ∨ a = 219) ∧ A ≤ b ∧ b < i) → s a b = s0 a b) → s0 193 u = K → (∀ i, s0 8 i = C i) → z_T (fX10_measureUnit_L55 fu 191 u A Z ac tn F s t i k) P := by
  intro m
  induction m with
  | zero =>
    intro F s t i h1 h2 h3 h4 h5 h6 h7 h8
    obtain ⟨F, rfl⟩ : ∃ F2, F = F2 + 1 := ⟨F - 1, by omega⟩
    refine T_of (fX10_measureUnit_L55.eq_2 ..) ?_
    refine T_let (A + Z) (z_wid (by unfold z_I; omega)) ?_
    refine T_if1 (by omega) ?_
    have e : i = A + Z := by omega
    subst e
    rw [h4, show A + Z - A = Z by omega]
    exact hk s h5 h6
  | succ m ih =>
    intro F s t i h1 h2 h3 h4 h5 h6 h7 h8
    obtain ⟨F, rfl⟩ : ∃ F2, F = F2 + 1 := ⟨F - 1, by omega⟩
    have hi : 0 ≤ i ∧ i < 200 := by omega
    have tb := y_sum_b (f := fun i => y_one1 ac K (C i)) (a := A) (fun _ => y_one1_b) (i - A).toNat
    have go : ∀ one : Int, one = y_one1 ac K (C i) → z_T (fX10_measureUnit_J96 fu s 191 u A Z ac tn t i one (fun w v6 v7 => fX10_measureUnit_L55 fu 191 u A Z ac tn F w v6 v7 k) k) P := fun one ho => by
      have ob := y_one1_b (ac := ac) (k := K) (c := C i)
      refine T_of (e_mu96 hi (by omega) (by omega)) ?_
      refine ih F _ _ (i + 1) (by omega) (by omega) (by omega) ?_ (fun j q1 q2 => ?_) (fun a b q => ?_) h7 h8
      · rw [show (i + 1 - A).toNat = (i - A).toNat + 1 by omega]
        show t + one = y_sum _ A (i - A).toNat + y_one1 ac K (C (A + ((i - A).toNat : Nat)))
        rw [h4, ho, show A + (((i - A).toNat : Nat) : Int) = i by omega]
      · by_cases z : j = i
        · subst z
          refine ⟨?_, z_up_s⟩
          rw [z_up_k (by decide), z_up_s]; exact ho
        · rw [z_up_k (by decide), z_up_j z, z_up_j z, z_up_k (by decide)]
          exact h5 j q1 (by omega)
      · rw [← h6 a b (fun z => q ⟨z.1, z.2.1, by omega⟩)]
        by_cases z1 : a = 219
        · subst z1
          rw [z_up_j (fun z => q ⟨Or.inr rfl, by omega, by omega⟩), z_up_k (by decide)]
        · rw [z_up_k z1]
          by_cases z2 : a = 217
          · subst z2
            exact z_up_j (fun z => q ⟨Or.inl rfl, by omega, by omega⟩)
          · exact z_up_k z2
    refine T_of (fX10_measureUnit_L55.eq_2 ..) ?_
    refine T_let (A + Z) (z_wid (by unfold z_I; omega)) ?_
    refine T_if0 (by omega) ?_
    rcases hac with rfl | rfl
    · refine T_if1 rfl ?_
      refine T_if1 v_ob191 ?_
      refine T_let 192 v_g2 ?_
      refine T_if1 v_rw192.1 ?_
      refine T_bI (T_of ((e_get v_rw192).trans (by rw [v_rg v_c192 v_l192 hu, h6 193 u (by omega), h7])) (T_rI ?_))
      refine T_if1 v_ob191 ?_
      refine T_let 6 v_g0 ?_
      refine T_if1 v_ob6 ?_
      refine T_let 7 v_t0 ?_
      refine T_if1 v_rw7.1 ?_
      refine T_bI (T_of ((e_get v_rw7).trans (by rw [v_rg v_c7 v_l7 hi, h6 8 i (by omega), h8])) (T_rI ?_))
      refine T_bI (T_of e_longOfSign (T_rI ?_))
      exact go _ (if_pos rfl).symm
    · refine T_if0 (by decide) ?_
      exact go _ (if_neg (by decide)).symm
/-- one unit's rows -/
def y_wd (s : z_M) (u : Int) : Int := if y_ac s u = 0 then y_sum (fun i => y_sl (s 193 u) (s 8 i)) (s 195 u) (s 197 u).toNat else 12
def y_MU (s s' : z_M) (u : Int) : Prop := s' 199 u = y_wd s u ∧ s' 201 u = s 12 (s 195 u) ∧ s' 203 u = s 16 (s 195 u) % 16 ∧ s' 205 u = s 18 (s 195 u) % 16 ∧
  (∀ i : Int, s 195 u ≤ i → i < s 195 u + s 197 u → s' 217 i = y_one1 (y_ac s u) (s 193 u) (s 8 i) ∧ s' 219 i = y_tn s (s 193 u) (y_ac s u)) ∧
  ∀ a b : Int, ¬ ((a = 199 ∨ a = 201 ∨ a = 203 ∨ a = 205) ∧ b = u) → ¬ ((a = 217 ∨ a = 219) ∧ s 195 u ≤ b ∧ b < s 195 u + s 197 u) → s' a b = s a b
theorem e_mu150 {fu : Nat} {s : z_M} {u A w : Int} (h : 0 ≤ u ∧ u < 200) (hA : 0 ≤ A ∧ A < 200) : fX10_measureUnit_J150 fu s 191 u A 198 u w = some (vN, z_up (z_up (z_up (z_up s 199 u w) 201 u (s 12 A)) 203 u (s 16 A % 16)) 205 u (s 18 A % 16)) := by
  unfold fX10_measureUnit_J150
  have c0 : ∀ s : z_M, fX9_letterCount fu s 6 0 A = some (vI (s 16 A % 16), s) := fun s => by rw [e_letterCount (Or.inl rfl) hA, if_pos rfl]
  have c1 : ∀ s : z_M, fX9_letterCount fu s 6 1 A = some (vI (s 18 A % 16), s) := fun s => by rw [e_letterCount (Or.inr rfl) hA, if_neg (by decide)]
  simp only [z_let, if_pos v_ob191, if_pos v_ob6, v_u6, v_u7, v_u8, v_g0, v_t2, if_pos v_r198.1.1, if_pos v_r200.1.1, if_pos v_r202.1.1, if_pos v_r204.1.1, if_pos v_rw11.1, e_put v_r198.1, e_put v_r200.1, e_put v_r202.1, e_put v_r204.1, e_get v_rw11, c0, c1, zb_N, zb_I, v_rp v_r198.2.1 v_r198.2.2 h, v_rp v_r200.2.1 v_r200.2.2 h, v_rp v_r202.2.1 v_r202.2.2 h, v_rp v_r204.2.1 v_r204.2.2 h, v_rg v_c11 v_l11 hA]
  rw [z_up_k (show (12 : Int) ≠ 199 by decide), z_up_k (show (16 : Int) ≠ 201 by decide), z_up_k (show (16 : Int) ≠ 199 by decide), z_up_k (show (18 : Int) ≠ 203 by decide), z_up_k (show (18 : Int) ≠ 201 by decide), z_up_k (show (18 : Int) ≠ 199 by decide)]
theorem e_measureUnit {fu : Nat} (hfu : 8589934592 ≤ fu) {s : z_M} {u : Int} (hu : 0 ≤ u ∧ u < 200) (hA : 0 ≤ s 195 u ∧ 1 ≤ s 197 u ∧ s 195 u + s 197 u ≤ 200) : z_T (fX10_measureUnit fu s 191 u) (fun v s' => v = vN ∧ y_MU s s' u) := by
  refine T_of (fX10_measureUnit.eq_1 ..) ?_
  refine T_if1 v_ob191 ?_
  refine T_let 194 v_g3 ?_
  refine T_if1 v_rw194.1 ?_
  refine T_bI (T_of ((e_get v_rw194).trans (by rw [v_rg v_c194 v_l194 hu])) (T_rI ?_))
  refine T_if1 v_ob191 ?_
  refine T_let 196 v_g4 ?_
  refine T_if1 v_rw196.1 ?_
  refine T_bI (T_of ((e_get v_rw196).trans (by rw [v_rg v_c196 v_l196 hu])) (T_rI ?_))
  refine T_if1 v_ob191 ?_
  refine T_bI (T_of (e_isAcross hu) (T_rI ?_))
  refine T_if1 v_ob191 ?_
  refine T_let 192 v_g2 ?_
  refine T_if1 v_rw192.1 ?_
  refine T_bI (T_of ((e_get v_rw192).trans (by rw [v_rg v_c192 v_l192 hu])) (T_rI ?_))
  refine T_if1 v_ob191 ?_
  refine T_bI (T_of e_isTurned (T_rI ?_))
  have go : ∀ tn : Int, tn = y_tn s (s 193 u) (y_ac s u) → z_T (fX10_measureUnit_J47 fu s 191 u (s 195 u) (s 197 u) (y_ac s u) tn) (fun v s' => v = vN ∧ y_MU s s' u) := fun tn ht => by
    refine T_of (fX10_measureUnit_J47.eq_1 ..) ?_
    refine e_muL (s0 := s) (K := s 193 u) (C := fun i => s 8 i) hu hA.1 (by omega) hA.2.2 y_ac_01 (fun s1 g1 g2 => ?_) (s 197 u).toNat fu s 0 (s 195 u) (by omega) (by omega) (Int.le_refl _) ?_ (fun j p q => by omega) (fun _ _ _ => rfl) rfl (fun _ => rfl)
    · refine T_if1 v_ob191 ?_
      refine T_let 198 v_u5 ?_
      have fin : ∀ w : Int, w = y_wd s u → z_T (fX10_measureUnit_J150 fu s1 191 u (s 195 u) 198 u w) (fun v s' => v = vN ∧ y_MU s s' u) := fun w hw => by
        refine T_of (e_mu150 hu ⟨hA.1, by omega⟩) (T_ret ⟨rfl, ?_⟩)
        have k12 : ∀ b, s1 12 b = s 12 b := fun b => g2 _ _ (by omega)
        have k16 : ∀ b, s1 16 b = s 16 b := fun b => g2 _ _ (by omega)
        have k18 : ∀ b, s1 18 b = s 18 b := fun b => g2 _ _ (by omega)
        refine ⟨?_, ?_, ?_, ?_, fun i p q => ?_, fun a b p q => ?_⟩
        · rw [z_up_k (by decide), z_up_k (by decide), z_up_k (by decide), z_up_s]; exact hw
        · rw [z_up_k (by decide), z_up_k (by decide), z_up_s, k12]
        · rw [z_up_k (by decide), z_up_s, k16]
        · rw [z_up_s, k18]
        · rw [z_up_k (by decide), z_up_k (by decide), z_up_k (by decide), z_up_k (by decide), z_up_k (by decide), z_up_k (by decide), z_up_k (by decide), z_up_k (by decide), ← ht]
          exact g1 i p q
        · rw [← g2 a b q]
          have one : ∀ (t : z_M) (c v : Int), (c = 199 ∨ c = 201 ∨ c = 203 ∨ c = 205) → z_up t c u v a b = t a b := fun t c v hc => by
            by_cases z : a = c
            · subst z; exact z_up_j (fun y => p ⟨hc, y⟩)
            · exact z_up_k z
          rw [one _ 205 _ (by omega), one _ 203 _ (by omega), one _ 201 _ (by omega), one _ 199 _ (by omega)]
      rcases y_ac_01 (s := s) (u := u) with q | q
      · refine T_if1 q ?_
        refine fin _ ?_
        unfold y_wd
        rw [if_pos q, q]
        exact y_sum_cg _ (fun i _ _ => if_pos rfl)
      · refine T_if0 (by omega) ?_
        refine fin _ ?_
        unfold y_wd
        rw [if_neg (by omega)]
    · rw [show s 195 u - s 195 u = 0 by omega]; rfl
  by_cases q : y_tn s (s 193 u) (y_ac s u) = 0
  · refine T_if1 q ?_
    exact go 0 q.symm
  · refine T_if0 q ?_
    refine go 1 ?_
    unfold y_tn at q ⊢
    split
    · rfl
    · rename_i z; rw [if_neg z] at q; exact absurd rfl q
