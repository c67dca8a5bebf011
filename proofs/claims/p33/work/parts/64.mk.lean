/-! MARKS: both sides -/
theorem v_t1 : z_gr 6 1 = 9 := by decide +kernel
theorem v_r9 : z_rw 9 ∧ z_gr 9 0 = 10 ∧ z_ln 9 = 200 := by decide +kernel
def y_bi (d : Int) : Int := if d = 0 then 1 else 2
theorem e_markBit {fu : Nat} {s : z_M} {d : Int} : fX10_markBit fu s d = some (vI (y_bi d), s) := by
  unfold fX10_markBit y_bi
  by_cases h : d = 0
  · rw [if_pos h]; simp only [h]; rfl
  · rw [if_neg h, if_pos (show d ≠ 0 from h)]; rfl
/-- a mark of a sign, the class's way -/
def y_mk (s : z_M) (d i : Int) : Int := if s 193 (s 215 i) = 7 then (if d ≠ 1 then 0 else if s 10 i = 0 then 0 else if s 205 (s 215 i) ≠ 0 then 0 else 1) else (if z_and (s 10 i) (y_bi d) = 0 then 0 else 1)
theorem y_mk_01 {s : z_M} {d i : Int} : 0 ≤ y_mk s d i ∧ y_mk s d i ≤ 1 := by
  unfold y_mk
  repeat (first | split | decide)
theorem e_markOf {fu : Nat} {s : z_M} {d i : Int} (h : 0 ≤ i ∧ i < 200) (hu : 0 ≤ s 215 i ∧ s 215 i < 200) : fX10_markOf fu s 191 i d = some (vI (y_mk s d i), s) := by
  unfold fX10_markOf fX10_markOf_J76 fX10_markOf_J77 fX10_markOf_J50
  simp only [z_let, if_pos v_ob191, if_pos v_ob6, v_g0, v_t1, if_pos v_r9.1.1, e_get v_r9.1, v_rgn v_r9.2.1 v_r9.2.2 h, zb_I, v_g13, if_pos v_rw214.1, e_get v_rw214, v_rg v_c214 v_l214 h, v_g2, if_pos v_rw192.1, e_get v_rw192, v_rg v_c192 v_l192 hu, v_u8, if_pos v_r204.1.1, e_get v_r204.1, v_rgn v_r204.2.1 v_r204.2.2 hu, e_markBit]
  unfold y_mk
  by_cases h1 : s 193 (s 215 i) = 7
  · rw [if_pos h1, if_pos h1]
    by_cases h2 : d ≠ 1
    · rw [if_pos h2, if_pos h2]
    · rw [if_neg h2, if_neg h2]
      by_cases h3 : s 10 i = 0
      · rw [if_pos h3, if_pos h3]
      · rw [if_neg h3, if_neg h3]
        by_cases h4 : s 205 (s 215 i) ≠ 0
        · rw [if_pos h4, if_pos h4]
        · rw [if_neg h4, if_neg h4]
  · rw [if_neg h1, if_neg h1]
    by_cases h2 : z_and (s 10 i) (y_bi d) = 0
    · rw [if_pos h2, if_pos h2]
    · rw [if_neg h2, if_neg h2]
theorem e_marksOfL {fu : Nat} {s : z_M} {d n : Int} {A : Int} {k : z_M → Int → z_O} (hA : 0 ≤ A) (hn : n ≤ 200) (hu : ∀ i : Int, 0 ≤ i → i < n → 0 ≤ s 215 i ∧ s 215 i < 200) : ∀ (m F : Nat) (t i : Int), (m : Int) = n - i → m < F → A ≤ i → t = y_sum (y_mk s d) A (i - A).toNat → fX10_marksOf_L6 fu 191 (n - 1) d F s t i k = k s (y_sum (y_mk s d) A (n - A).toNat) := by
  intro m
  induction m with
  | zero =>
    intro F t i h1 h2 h3 h4
    obtain ⟨F, rfl⟩ : ∃ F2, F = F2 + 1 := ⟨F - 1, by omega⟩
    rw [fX10_marksOf_L6.eq_2, if_pos (by omega), h4, show i = n by omega]
  | succ m ih =>
    intro F t i h1 h2 h3 h4
    obtain ⟨F, rfl⟩ : ∃ F2, F = F2 + 1 := ⟨F - 1, by omega⟩
    have b := y_sum_b (f := y_mk s d) (a := A) (fun i => by have := y_mk_01 (s := s) (d := d) (i := i); omega) (i - A).toNat
    have b2 := y_mk_01 (s := s) (d := d) (i := i)
    rw [fX10_marksOf_L6.eq_2, if_neg (by omega), if_pos v_ob191, e_markOf ⟨by omega, by omega⟩ (hu i (by omega) (by omega))]
    simp only [zb_I, z_let, z_wid (show z_I (t + y_mk s d i) by unfold z_I; omega), z_wid (show z_I (i + 1) by unfold z_I; omega)]
    refine ih F _ _ (by omega) (by omega) (by omega) ?_
    rw [show (i + 1 - A).toNat = (i - A).toNat + 1 by omega]
    show t + y_mk s d i = y_sum _ A (i - A).toNat + y_mk s d (A + ((i - A).toNat : Nat))
    rw [h4, show A + (((i - A).toNat : Nat) : Int) = i by omega]
theorem e_marksOf {fu : Nat} (hfu : 8589934592 ≤ fu) {s : z_M} {d n A : Int} (hA : 0 ≤ A ∧ A ≤ n) (hn : n ≤ 200) (hu : ∀ i : Int, 0 ≤ i → i < n → 0 ≤ s 215 i ∧ s 215 i < 200) : fX10_marksOf fu s 191 A (n - 1) d = some (vI (y_sum (y_mk s d) A (n - A).toNat), s) := by
  unfold fX10_marksOf
  exact e_marksOfL hA.1 hn hu (n - A).toNat fu 0 A (by omega) (by omega) (Int.le_refl _) (by rw [show A - A = 0 by omega]; rfl)
/-- the reference's marks of a sign -/
def y_mm (s : z_M) (i : Int) : Int := if s 346 i = 7 then (if s (407 + s 361 i) 10 = 0 ∧ s 376 i ≠ 0 then 2 else 0) else s 376 i
theorem v_m0 : z_gr 309 16 = 375 ∧ z_gr 309 14 = 345 ∧ z_gr 309 18 = 405 ∧ z_gr 309 15 = 360 ∧ z_gr 309 12 = 315 := by decide +kernel
theorem v_m1 : z_gr 375 0 = 376 ∧ z_gr 345 0 = 346 ∧ z_gr 405 0 = 406 ∧ z_gr 360 0 = 361 ∧ z_gr 315 0 = 316 := by decide +kernel
theorem v_m2 : z_ix 375 103 0 ∧ z_ix 345 103 0 ∧ z_ix 405 105 0 ∧ z_ix 360 103 0 ∧ z_ix 315 103 0 := by decide +kernel
theorem v_i376 {i : Int} (h : 0 ≤ i ∧ i < 200) : z_ix 376 100 i ∧ z_ix 346 100 i ∧ z_ix 361 100 i ∧ z_ix 406 103 i :=
  ⟨z_ixl (n := 200) (by decide +kernel) (by omega) (by omega), z_ixl (n := 200) (by decide +kernel) (by omega) (by omega), z_ixl (n := 200) (by decide +kernel) (by omega) (by omega), z_ixl (n := 200) (by decide +kernel) (by omega) (by omega)⟩
theorem v_i407 {b j : Int} (h : 0 ≤ b ∧ b < 200) (hj : 0 ≤ j ∧ j < 20) : z_ix (407 + b) 100 j := z_ixs (sh_L0 (by omega)) (by omega) (by omega) (by omega)
/-- one side's step -/
def y_stp (told m p q d : Int) : Int := if z_and told (z_shl 1 d) = 0 then m else if p ≠ 0 then (if q ≠ 0 then z_and m (z_xor (z_shl 1 d) (-1)) else if z_and told (z_w (3 - z_shl 1 d)) ≠ 0 then z_and m (z_xor (z_shl 1 d) (-1)) else z_or (z_and m (z_xor (z_shl 1 d) (-1))) (z_w (3 - z_shl 1 d))) else m
theorem e_mmS {fu : Nat} {s : z_M} {b told m d p q : Int} {k : z_M → Int → z_O} (hb : 0 ≤ b ∧ b < 200) (hd : d = 0 ∨ d = 1) (hp : s (407 + b) (10 * d) = p) (hq : s (407 + b) (10 * (1 - d)) = q) (F : Nat) : fX12_marksOf_L46 fu told (407 + b) (F + 1) s m d k = fX12_marksOf_L46 fu told (407 + b) F s (y_stp told m p q d) (d + 1) k := by
  have i0 := v_i407 (j := 10 * d) hb (by omega)
  have i1 := v_i407 (j := 10 * (1 - d)) hb (by omega)
  have w0 : z_w (10 * d) = 10 * d := z_wid (by unfold z_I; omega)
  have w1 : z_w (1 - d) = 1 - d := z_wid (by unfold z_I; omega)
  have w2 : z_w (10 * (1 - d)) = 10 * (1 - d) := z_wid (by unfold z_I; omega)
  have w3 : z_w (d + 1) = d + 1 := z_wid (by unfold z_I; omega)
  rw [fX12_marksOf_L46.eq_2, if_neg (show ¬ (2 : Int) ≤ d by omega)]
  simp only [z_let, fX12_marksOf_J117, w0, w1, w2, w3, if_pos i0, if_pos i1, hp, hq]
  unfold y_stp
  by_cases c1 : z_and told (z_shl 1 d) = 0
  · rw [if_pos c1, if_pos c1]
  · rw [if_neg c1, if_neg c1]
    by_cases c2 : p ≠ 0
    · rw [if_pos c2, if_pos c2]
      by_cases c3 : q ≠ 0
      · rw [if_pos c3, if_pos c3]
      · rw [if_neg c3, if_neg c3]
        by_cases c4 : z_and told (z_w (3 - z_shl 1 d)) ≠ 0
        · rw [if_pos c4, if_pos c4]
        · rw [if_neg c4, if_neg c4]
    · rw [if_neg c2, if_neg c2]
theorem y_stp2 {p q : Int} (hp : p ≠ 0) : ∀ told : Int, 0 ≤ told ∧ told ≤ 3 → y_stp told (y_stp told told p q 0) q p 1 = if q = 0 ∧ told ≠ 0 then 2 else 0 := by
  intro told ht
  have t : told = 0 ∨ told = 1 ∨ told = 2 ∨ told = 3 := by omega
  have e : ∀ m d : Int, y_stp told m p q d = if z_and told (z_shl 1 d) = 0 then m else (if q ≠ 0 then z_and m (z_xor (z_shl 1 d) (-1)) else if z_and told (z_w (3 - z_shl 1 d)) ≠ 0 then z_and m (z_xor (z_shl 1 d) (-1)) else z_or (z_and m (z_xor (z_shl 1 d) (-1))) (z_w (3 - z_shl 1 d))) := fun m d => by
    unfold y_stp; rw [if_pos hp]
  have e2 : ∀ m d : Int, y_stp told m q p d = if z_and told (z_shl 1 d) = 0 then m else if q ≠ 0 then z_and m (z_xor (z_shl 1 d) (-1)) else m := fun m d => by
    unfold y_stp; rw [if_pos hp]
  rw [e, e2]
  by_cases h : q = 0
  · subst h
    rcases t with rfl | rfl | rfl | rfl <;> decide +kernel
  · rw [if_neg (show ¬ (q = 0 ∧ told ≠ 0) from fun x => h x.1), if_pos h, if_pos h]
    rcases t with rfl | rfl | rfl | rfl <;> decide +kernel
theorem e_mmL {fu : Nat} {s : z_M} {b : Int} (hb : 0 ≤ b ∧ b < 200) (h1 : 1 ≤ s (407 + b) 0) : ∀ told : Int, 0 ≤ told ∧ told ≤ 3 → ∀ F : Nat, fX12_marksOf_L46 fu told (407 + b) (F + 3) s told 0 (fun s26 x27 => some (vI x27, s26)) = some (vI (if s (407 + b) 10 = 0 ∧ told ≠ 0 then 2 else 0), s) := by
  intro told ht F
  refine (e_mmS (p := s (407 + b) 0) (q := s (407 + b) 10) hb (Or.inl rfl) rfl rfl (F + 2)).trans ?_
  refine (e_mmS (d := 1) (p := s (407 + b) 10) (q := s (407 + b) 0) hb (Or.inr rfl) rfl rfl (F + 1)).trans ?_
  refine (fX12_marksOf_L46.eq_2 ..).trans ?_
  rw [if_pos (by decide), y_stp2 (by omega) told ht]
theorem e_mmarksOf {fu : Nat} (hfu : 8589934592 ≤ fu) {s : z_M} {i : Int} (h : 0 ≤ i ∧ i < 200) (ht : 0 ≤ s 376 i ∧ s 376 i ≤ 3) (hb : s 346 i = 7 → (0 ≤ s 361 i ∧ s 361 i < 200) ∧ 1 ≤ s (407 + s 361 i) 0) : fX12_marksOf fu s 309 i = some (vI (y_mm s i), s) := by
  unfold fX12_marksOf
  simp only [z_let, if_pos v_ob309, v_m0.1, v_m0.2.1, v_m0.2.2.1, v_m0.2.2.2.1, if_pos v_m2.1, if_pos v_m2.2.1, if_pos v_m2.2.2.1, if_pos v_m2.2.2.2.1, v_m1.1, v_m1.2.1, v_m1.2.2.1, v_m1.2.2.2.1, if_pos (v_i376 h).1, if_pos (v_i376 h).2.1, if_pos (v_i376 h).2.2.1]
  unfold y_mm
  by_cases h7 : s 346 i = 7
  · obtain ⟨b, b1⟩ := hb h7
    have g : z_gr 406 (s 361 i) = 407 + s 361 i := gr_406 _
    rw [if_pos h7, if_pos h7, if_pos (v_i376 b).2.2.2, g]
    obtain ⟨F, rfl⟩ : ∃ F, fu = F + 3 := ⟨fu - 3, by omega⟩
    exact e_mmL b b1 _ ht F
  · rw [if_neg h7, if_neg h7]
/-- marks on a side, all signs -/
def y_ms (s : z_M) (d i : Int) : Int := z_and (z_shr (y_mm s i) d) 1
theorem y_ms_v {d : Int} (hd : d = 0 ∨ d = 1) : ∀ m : Int, 0 ≤ m ∧ m ≤ 3 → z_and (z_shr m d) 1 = (if d = 0 then m % 2 else m / 2) ∧ (z_and m (y_bi d) = 0 ↔ (if d = 0 then m % 2 else m / 2) = 0) := by
  intro m hm
  have t : m = 0 ∨ m = 1 ∨ m = 2 ∨ m = 3 := by omega
  rcases hd with rfl | rfl <;> rcases t with rfl | rfl | rfl | rfl <;> decide +kernel
/-! refusals of the reference -/
theorem em_bad0 {fu : Nat} {s : z_M} {w r : Int} (h : s 309 0 = 0) : fX12_bad fu s 309 0 w r = some (vI 0, s) := by
  unfold fX12_bad fX12_bad_J26 fX12_bad_J38
  rw [if_pos rfl, if_pos v_ob309]
  simp only [z_let, h]
  rw [if_pos bl0]
  rfl
theorem v_310 : z_gr 309 1 = 310 ∧ z_ix 310 100 0 ∧ z_ix 310 100 1 := by decide +kernel
theorem em_bad1 {fu : Nat} {s : z_M} {w r : Int} (h : s 309 0 = 0) (hw : w ≠ 0) (hr : r = 0 ∨ r = 1) : z_T (fX12_bad fu s 309 1 w r) (fun v s' => v = vI 1 ∧ s' 309 0 = w ∧ ∀ a b : Int, ¬ (a = 309 ∧ b = 0) → a ≠ 310 → s' a b = s a b) := by
  have ix : z_ix 310 100 r := by
    rcases hr with rfl | rfl
    · exact v_310.2.1
    · exact v_310.2.2
  have e : fX12_bad fu s 309 1 w r = some (vI 1, z_up (z_up s 309 0 w) 310 r (z_w (z_up s 309 0 w 310 r + 1))) := by
    unfold fX12_bad fX12_bad_J26 fX12_bad_J38
    rw [if_neg (by decide)]
    simp only [z_let, if_pos v_ob309, h, v_310.1, if_pos ix]
    rw [if_neg (by decide), z_up_k (show (309 : Int) ≠ 310 by decide), z_up_s, if_neg hw, if_pos bl1]
  refine T_of e (T_ret ⟨rfl, ?_, fun a b p q => ?_⟩)
  · rw [z_up_k (by decide), z_up_s]
  · rw [z_up_k q]
    by_cases z : a = 309
    · subst z
      exact z_up_j (fun y => p ⟨rfl, y⟩)
    · exact z_up_k z
theorem em_in {fu : Nat} {s : z_M} {v a b : Int} : fX12_in fu s v a b = some (vI (if a ≤ v ∧ v ≤ b then 1 else 0), s) := by
  unfold fX12_in fX12_in_J14 fX12_in_J15
  rw [if_pos bl0, if_pos bl1]
  by_cases h1 : v < a
  · rw [if_pos h1, if_neg (by omega)]
  · rw [if_neg h1]
    by_cases h2 : b < v
    · rw [if_pos h2, if_neg (by omega)]
    · rw [if_neg h2, if_pos (by omega)]
/-- what the reference's text 0 must be for that -/
def y_MO (s : z_M) : Prop := ∀ i : Int, 0 ≤ i → i < s 316 0 → (0 ≤ s 376 i ∧ s 376 i ≤ 3) ∧ (s 346 i = 7 → (0 ≤ s 361 i ∧ s 361 i < 200) ∧ 1 ≤ s (407 + s 361 i) 0)
theorem y_sum_br {f : Int → Int} {a : Int} : ∀ n : Nat, (∀ i : Int, a ≤ i → i < a + n → 0 ≤ f i ∧ f i ≤ 12) → 0 ≤ y_sum f a n ∧ y_sum f a n ≤ 12 * n := by
  intro n
  induction n with
  | zero => intro _; exact ⟨Int.le_refl 0, Int.le_refl 0⟩
  | succ n ih =>
    intro h
    have := h (a + n) (by omega) (by omega)
    have := ih (fun i p q => h i p (by omega))
    show 0 ≤ y_sum f a n + f (a + n) ∧ y_sum f a n + f (a + n) ≤ 12 * ((n + 1 : Nat) : Int)
    omega
theorem v_316 : z_ix 316 100 0 := by decide +kernel
theorem y_MO.mm {s : z_M} (mo : y_MO s) {i : Int} (h0 : 0 ≤ i) (h1 : i < s 316 0) : 0 ≤ y_mm s i ∧ y_mm s i ≤ 3 := by
  have o := mo i h0 h1
  unfold y_mm
  by_cases h7 : s 346 i = 7
  · rw [if_pos h7]; split <;> decide
  · rw [if_neg h7]; exact o.1
theorem y_MO.ms {s : z_M} (mo : y_MO s) {d i : Int} (hd : d = 0 ∨ d = 1) (h0 : 0 ≤ i) (h1 : i < s 316 0) : 0 ≤ y_ms s d i ∧ y_ms s d i ≤ 1 := by
  have m := mo.mm h0 h1
  unfold y_ms
  rw [(y_ms_v hd _ m).1]
  split <;> omega
theorem em_marksL {fu : Nat} (hfu : 8589934592 ≤ fu) {s : z_M} {d n : Int} {k : z_M → Int → z_O} (hd : d = 0 ∨ d = 1) (hn : s 316 0 = n) (h2 : n ≤ 200) (mo : y_MO s) : ∀ (m F : Nat) (t i : Int), (m : Int) = n - i → m < F → 0 ≤ i → t = y_sum (y_ms s d) 0 i.toNat → fX12_marks_L34 fu 309 d F s t i k = k s (y_sum (y_ms s d) 0 n.toNat) := by
  intro m
  induction m with
  | zero =>
    intro F t i h1 h2 h3 h4
    obtain ⟨F, rfl⟩ : ∃ F2, F = F2 + 1 := ⟨F - 1, by omega⟩
    rw [fX12_marks_L34.eq_2]
    simp only [z_let, if_pos v_ob309, v_m0.2.2.2.2, if_pos v_m2.2.2.2.2, v_m1.2.2.2.2, if_pos v_316, hn]
    rw [if_pos (by omega), h4, show i = n by omega]
  | succ m ih =>
    intro F t i h1 h2 h3 h4
    obtain ⟨F, rfl⟩ : ∃ F2, F = F2 + 1 := ⟨F - 1, by omega⟩
    have b := y_sum_br (f := y_ms s d) (a := 0) i.toNat (fun j p q => by have := mo.ms hd p (show j < s 316 0 by omega); omega)
    have b2 := mo.ms hd h3 (show i < s 316 0 by omega)
    have o := mo i h3 (by omega)
    rw [fX12_marks_L34.eq_2]
    simp only [z_let, if_pos v_ob309, v_m0.2.2.2.2, if_pos v_m2.2.2.2.2, v_m1.2.2.2.2, if_pos v_316, hn]
    rw [if_neg (by omega), e_mmarksOf hfu ⟨by omega, by omega⟩ o.1 o.2]
    simp only [zb_I]
    show fX12_marks_L34 fu 309 d F s (z_w (t + y_ms s d i)) (z_w (i + 1)) k = _
    rw [z_wid (show z_I (t + y_ms s d i) by unfold z_I; omega), z_wid (show z_I (i + 1) by unfold z_I; omega)]
    refine ih F _ _ (by omega) (by omega) (by omega) ?_
    rw [show (i + 1).toNat = i.toNat + 1 by omega]
    show t + y_ms s d i = y_sum _ 0 i.toNat + y_ms s d (0 + (i.toNat : Nat))
    rw [h4, show (0 : Int) + ((i.toNat : Nat) : Int) = i by omega]
/-- refused, or answered -/
def y_A1 (s' : z_M) (ok : Prop) (y z : Int) : Prop := (¬ ok ∧ s' 309 0 = 1) ∨ (ok ∧ s' 309 0 = 0 ∧ y = z)
theorem em_marks {fu : Nat} (hfu : 8589934592 ≤ fu) {s : z_M} {d : Int} (hn : 0 ≤ s 316 0 ∧ s 316 0 ≤ 200) (mo : y_MO s) : z_T (fX12_marks fu s 309 d) (fun v s' => ∃ y, v = vI y ∧ y_A1 s' (0 ≤ d ∧ d ≤ 1) y (y_sum (y_ms s d) 0 (s 316 0).toNat)) := by
  refine T_of (fX12_marks.eq_1 ..) ?_
  refine T_if1 v_ob309 ?_
  refine T_up ?_
  have e0 : z_up s 309 0 0 309 0 = 0 := z_up_s
  have k : ∀ a b : Int, ¬ (a = 309 ∧ b = 0) → z_up s 309 0 0 a b = s a b := fun a b q => by
    by_cases z : a = 309
    · subst z
      exact z_up_j (fun y => q ⟨rfl, y⟩)
    · exact z_up_k z
  generalize z_up s 309 0 0 = s1 at e0 k
  have en : s1 316 0 = s 316 0 := k _ _ (by omega)
  have ems : ∀ i, y_ms s1 d i = y_ms s d i := fun i => by
    unfold y_ms y_mm
    rw [k 346 i (by omega), k 361 i (by omega), k 376 i (by omega)]
    by_cases q : 407 + s 361 i = 309
    · rw [q]
      rw [k 309 10 (by omega)]
    · rw [k _ 10 (by omega)]
  refine T_bI (T_of em_in (T_rI ?_))
  by_cases h : 0 ≤ d ∧ d ≤ 1
  · rw [if_pos h]
    refine T_if1 (by decide) ?_
    refine T_of (fX12_marks_J20.eq_1 ..) ?_
    refine T_if1 v_ob309 ?_
    refine T_bI (T_of (em_bad0 e0) (T_rI ?_))
    refine T_if1 rfl ?_
    refine T_of (em_marksL hfu (n := s 316 0) (by omega) en hn.2 (fun i h0 h1 => ?_) (s 316 0).toNat fu 0 0 (by omega) (by omega) (Int.le_refl _) rfl) ?_
    · have o := mo i h0 (by omega)
      rw [k 376 i (by omega), k 346 i (by omega), k 361 i (by omega)]
      refine ⟨o.1, fun z => ⟨(o.2 z).1, ?_⟩⟩
      have := (o.2 z).1
      rw [k _ 0 (by omega)]
      exact (o.2 z).2
    · refine T_ret ⟨_, rfl, Or.inr ⟨h, e0, ?_⟩⟩
      exact y_sum_cg _ (fun i _ _ => ems i)
  · rw [if_neg h]
    refine T_if0 (by decide) ?_
    refine T_of (fX12_marks_J20.eq_1 ..) ?_
    refine T_if1 v_ob309 ?_
    refine T_useI (em_bad1 e0 (by decide) (Or.inr rfl)) (fun v s2 hq => ?_)
    obtain ⟨rfl, q1, _⟩ := hq
    refine T_vI ?_
    refine T_if0 (by decide) ?_
    exact T_ret ⟨_, rfl, Or.inl ⟨h, q1⟩⟩
/-! both sides -/
/-- a base's letters stand at the first sign of its unit -/
theorem y_T2.hd {g s : z_M} (X : y_T2 g 6 s 0) (p : y_PU s) {i : Int} (h0 : 0 ≤ i) (h1 : i < s 316 0) (h7 : s 346 i = 7) (hb : s 316 1 ≤ 200) : (0 ≤ s 361 i ∧ s 361 i < 200) ∧ 1 ≤ s (407 + s 361 i) 0 ∧ g 16 (s 3221 (s 3223 i)) % 16 = s (407 + s 361 i) 0 ∧ g 18 (s 3221 (s 3223 i)) % 16 = s (407 + s 361 i) 10 ∧ g 12 (s 3221 (s 3223 i)) = s 391 (s 361 i) := by
  obtain ⟨x, _, xt⟩ := X
  have b := x.BS xt rfl
  obtain ⟨u1, u2, u3, u4, u5, u6⟩ := p.of0 b h0 h1
  obtain ⟨w1, w2, w3, w4, w5⟩ := p.un u1.1 u1.2
  generalize s 3221 (s 3223 i) = A at *
  have hA : 0 ≤ A ∧ A < s 316 0 := by omega
  have k := x.kind hA.1 hA.2
  have st := x.start hA.1 hA.2
  rw [w5] at st
  unfold y_sC at st
  rw [k, if_pos (by omega)] at st
  have h14 : g 14 A = 1 := by
    by_cases q : g 14 A = 1
    · exact q
    · rw [if_neg q] at st; omega
  have lt := (x.at0 h0 h1).1
  have f := xt.1 A hA.1 hA.2 (show s 346 A = 7 by omega) (show s 361 A < s 316 1 by rw [u6]; exact lt)
  obtain ⟨f1, f2, f3⟩ := f
  obtain ⟨f4, f5, f6⟩ := f3 h14
  have e : s (361 + 0) A = s 361 i := u6
  rw [e] at f1 f2 f4 f5 f6
  have e2 : (407 : Int) + 201 * 0 + s 361 i = 407 + s 361 i := by omega
  have f4' : g 16 A % 16 = s (407 + 201 * 0 + s 361 i) 0 := f4
  have f5' : g 18 A % 16 = s (407 + 201 * 0 + s 361 i) 10 := f5
  have f6' : 1 ≤ s (407 + 201 * 0 + s 361 i) 0 := f6
  rw [e2] at f4' f5' f6'
  have lt2 : s 361 i < s 316 1 := lt
  exact ⟨⟨f1, by omega⟩, f6', f4', f5', f2⟩
theorem y_T2.pn {g s : z_M} (X : y_T2 g 6 s 0) {i : Int} (h0 : 0 ≤ i) (h1 : i < s 316 0) : g 10 i = s 376 i ∧ 0 ≤ s 376 i ∧ s 376 i ≤ 3 := by
  obtain ⟨x, _, xt⟩ := X
  have e := (x.at0 h0 h1).2.2.1
  have e2 : g 10 i = s 376 i := e
  have q := xt.2.2.2.2.2 i h0 h1
  have q2 : 0 ≤ g 10 i ∧ g 10 i ≤ 3 := q
  exact ⟨e2, by omega, by omega⟩
theorem y_T2.MO {g s : z_M} (X : y_T2 g 6 s 0) (p : y_PU s) (hb : s 316 1 ≤ 200) : y_MO s := fun i h0 h1 =>
  ⟨(X.pn h0 h1).2, fun h7 => ⟨(X.hd p h0 h1 h7 hb).1, (X.hd p h0 h1 h7 hb).2.1⟩⟩
/-- the class's units stand, with all their rows -/
theorem y_T2.tok {g s : z_M} (X : y_T2 g 6 s 0) (hn : 0 ≤ s 316 0) : y_TOK g := by
  obtain ⟨x, _, _⟩ := X
  have n0 := x.n0
  unfold y_TOK
  by_cases q : s 316 0 = 0
  · exact Or.inl (n0.trans q)
  · right
    rw [x.start (Int.le_refl 0) (by omega)]
    exact y_sS0
theorem y_mk_eq {g s : z_M} (X : y_T2 g 6 s 0) (u : y_U2 g) (p : y_PU s) (hn : 0 ≤ s 316 0) (hb : s 316 1 ≤ 200) {d i : Int} (hd : d = 0 ∨ d = 1) (h0 : 0 ≤ i) (h1 : i < s 316 0) : y_mk g d i = y_ms s d i := by
  have e := X.1.EU u.2.1 p
  obtain ⟨e1, e2, e3⟩ := e
  have b := X.1.BS X.2.2 rfl
  obtain ⟨u1, u2, u3, u4, u5, u6⟩ := p.of0 b h0 h1
  obtain ⟨x1, x2⟩ := e3 i h0 h1 ▸ e2 (s 3223 i) u1.1 u1.2
  have pn := X.pn h0 h1
  have mr := (u.2.2 (X.tok hn)).1 (s 3223 i) u1.1 (by omega)
  unfold y_mk y_ms y_mm
  rw [e3 i h0 h1, (e2 _ u1.1 u1.2).2.2, u4, pn.1]
  by_cases h7 : s 346 i = 7
  · rw [if_pos h7, if_pos h7]
    have h := X.hd p h0 h1 h7 hb
    have l : g 205 (s 3223 i) = s (407 + s 361 i) 10 := by
      rw [mr.2.2.2.1, (e2 _ u1.1 u1.2).1]
      exact h.2.2.2.1
    rw [l]
    have v0 := y_ms_v hd 0 (by decide)
    have v2 := y_ms_v hd 2 (by decide)
    rcases hd with rfl | rfl
    · rw [if_pos (by decide)]
      split
      · rw [v2.1]; rfl
      · rw [v0.1]; rfl
    · rw [if_neg (by decide)]
      by_cases q1 : s 376 i = 0
      · rw [if_pos q1, if_neg (fun q => q.2 q1), v0.1]; rfl
      · rw [if_neg q1]
        by_cases q2 : s (407 + s 361 i) 10 = 0
        · rw [if_neg (fun q => q q2), if_pos ⟨q2, q1⟩, v2.1]; rfl
        · rw [if_pos q2, if_neg (fun q => q2 q.1), v0.1]; rfl
  · rw [if_neg h7, if_neg h7]
    have v := y_ms_v hd (s 376 i) pn.2
    rw [v.1]
    by_cases q : z_and (s 376 i) (y_bi d) = 0
    · rw [if_pos q, v.2.mp q]
    · rw [if_neg q]
      have := fun z => q (v.2.mpr z)
      rcases hd with rfl | rfl
      · rw [if_pos rfl] at this ⊢; omega
      · rw [if_neg (by decide)] at this ⊢; omega
