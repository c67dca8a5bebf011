/-! hang: what blocks hang over, and their pads -/
def y_rm (K ln ah : Int) : Int := if K = 0 ∨ K = 1 ∨ K = 2 then ln else if K = 6 then 4 else if K = 3 ∨ K = 5 then (if ah = 0 then 0 else 6) else if K = 4 then (if ah = 0 then 6 else 0) else 0
theorem e_room {fu : Nat} {s : z_M} {K ln ah : Int} : fX0_room fu s K ln ah = some (vI (y_rm K ln ah), s) := by
  unfold fX0_room fX0_room_J58 fX0_room_J69 y_rm
  by_cases h0 : K = 0
  · rw [if_pos h0, if_pos (Or.inl h0)]
  · rw [if_neg h0]
    by_cases h1 : K = 1
    · rw [if_pos h1, if_pos (Or.inr (Or.inl h1))]
    · rw [if_neg h1]
      by_cases h2 : K = 2
      · rw [if_pos h2, if_pos (Or.inr (Or.inr h2))]
      · rw [if_neg h2, if_neg (show ¬ (K = 0 ∨ K = 1 ∨ K = 2) by omega)]
        by_cases h3 : K = 3
        · rw [if_pos h3, if_neg (show ¬ K = 6 by omega), if_pos (Or.inl h3)]
          by_cases a : ah = 0
          · rw [if_pos a, if_pos a]
          · rw [if_neg a, if_neg a]
        · rw [if_neg h3]
          by_cases h4 : K = 4
          · rw [if_pos h4, if_neg (show ¬ K = 6 by omega), if_neg (show ¬ (K = 3 ∨ K = 5) by omega), if_pos h4]
            by_cases a : ah = 0
            · rw [if_pos a, if_pos a]
            · rw [if_neg a, if_neg a]
          · rw [if_neg h4]
            by_cases h5 : K = 5
            · rw [if_pos h5, if_neg (show ¬ K = 6 by omega), if_pos (Or.inr h5)]
              by_cases a : ah = 0
              · rw [if_pos a, if_pos a]
              · rw [if_neg a, if_neg a]
            · rw [if_neg h5]
              by_cases h6 : K = 6
              · rw [if_pos h6, if_pos h6]
              · rw [if_neg h6, if_neg h6, if_neg (show ¬ (K = 3 ∨ K = 5) by omega), if_neg h4]
theorem y_rm_b {K ln ah : Int} (h : 0 ≤ ln ∧ ln ≤ 6) : 0 ≤ y_rm K ln ah ∧ y_rm K ln ah ≤ 6 := by
  unfold y_rm
  repeat (first | split | omega)
theorem v_td2 {x : Int} (h : 0 ≤ x) : Int.tdiv x 2 = x / 2 := Int.tdiv_eq_ediv_of_nonneg h
section HA
variable {P : z_V → z_M → Prop} {fu : Nat} {s : z_M} {o st t ln p f k nx ov mA mB : Int} {r : z_M → Int → Int → z_O} {kk : z_M → Int → z_O}
theorem e_h229 (ho : y_ob2 o) (hk : 0 ≤ k ∧ k < 200) (bo : 0 ≤ ov ∧ ov ≤ 18000) (bA : 0 ≤ mA ∧ mA ≤ 6) (bB : 0 ≤ mB ∧ mB ≤ 6) (bp : 0 ≤ p ∧ p ≤ 4000000)
    (hr : z_T (r (z_up (z_up s (o + 10) k (z_min (ov / 2) mA)) (o + 12) k (z_min (ov - ov / 2) mB)) (p + (ov - z_min (ov / 2) mA - z_min (ov - ov / 2) mB)) (k + 1)) P) :
    z_T (fX0_hang_J229 fu s o st t ln p f k ov mA mB r kk) P := by
  obtain ⟨o0, o1, o2, o3, o4, o5, o6, o7, o8, o9⟩ := v_o ho
  have td := v_td2 bo.1
  have m1 := z_minb (ov / 2) mA
  have m2 := z_minb (ov - ov / 2) mB
  refine T_of (fX0_hang_J229.eq_1 ..) ?_
  refine T_if1 o0 ?_
  refine T_let (o + 9) o6 ?_
  refine T_if1 (by decide) ?_
  refine T_let (ov / 2) (by rw [td]; exact v_wid (by omega)) ?_
  refine T_let (z_min (ov / 2) mA) rfl ?_
  refine T_if1 (v_o9 ho).1.1 ?_
  refine T_putX (v_o9 ho) hk ?_
  refine T_if1 o0 ?_
  refine T_let (o + 11) o7 ?_
  refine T_if1 (by decide) ?_
  refine T_let (ov / 2) (by rw [td]; exact v_wid (by omega)) ?_
  refine T_let (ov - ov / 2) (v_wid (by omega)) ?_
  refine T_let (z_min (ov - ov / 2) mB) rfl ?_
  refine T_if1 (v_o11 ho).1.1 ?_
  refine T_putX (v_o11 ho) hk ?_
  refine T_if1 o0 ?_
  refine T_let (o + 9) o6 ?_
  refine T_if1 (v_o9 ho).1.1 ?_
  refine T_getX (v_o9 ho) hk ?_
  rw [z_up_k (show o + 10 ≠ o + 12 by omega), z_up_s]
  refine T_let (ov - z_min (ov / 2) mA) (v_wid (by omega)) ?_
  refine T_if1 o0 ?_
  refine T_let (o + 11) o7 ?_
  refine T_if1 (v_o11 ho).1.1 ?_
  refine T_getX (v_o11 ho) hk ?_
  rw [z_up_s]
  refine T_let (ov - z_min (ov / 2) mA - z_min (ov - ov / 2) mB) (v_wid (by omega)) ?_
  refine T_let (p + (ov - z_min (ov / 2) mA - z_min (ov - ov / 2) mB)) (v_wid (by omega)) ?_
  refine T_let (k + 1) (v_wid (by omega)) ?_
  exact hr
theorem e_h175 (ho : y_ob2 o) (hk : 0 ≤ k ∧ k < 200) (hc : s o 9 ≤ 200) (hn : -1 ≤ nx ∧ nx ≤ 1000) (bB : 0 ≤ mB ∧ mB ≤ 6)
    (hr : z_T (fX0_hang_J229 fu s o st t ln p f k ov mA (if 0 < ov ∧ k + 1 < s o 9 ∧ s (o + 2) (k + 1) = nx + 1 ∧ 0 < s (o + 8) (k + 1) then mB / 2 else mB) r kk) P) :
    z_T (fX0_hang_J175 fu s o st t ln p f k nx ov mA mB r kk) P := by
  obtain ⟨o0, o1, o2, o3, o4, o5, o6, o7, o8, o9⟩ := v_o ho
  refine T_of (fX0_hang_J175.eq_1 ..) ?_
  refine T_ite (fun q => ?_) (fun q => ?_)
  · rw [if_neg (by omega)] at hr; exact hr
  refine T_let (k + 1) (v_wid (by omega)) ?_
  refine T_if1 o0 ?_
  refine T_let (s o 9) rfl ?_
  refine T_ite (fun q2 => ?_) (fun q2 => ?_)
  · rw [if_neg (by omega)] at hr; exact hr
  refine T_if1 o0 ?_
  refine T_let (o + 1) o2 ?_
  refine T_let (k + 1) (v_wid (by omega)) ?_
  refine T_if1 (v_o1 ho).1.1 ?_
  refine T_getX (v_o1 ho) ⟨by omega, by omega⟩ ?_
  refine T_let (nx + 1) (v_wid (by omega)) ?_
  refine T_ite (fun q3 => ?_) (fun q3 => ?_)
  · rw [if_neg (by omega)] at hr; exact hr
  refine T_if1 o0 ?_
  refine T_let (o + 7) o5 ?_
  refine T_let (k + 1) (v_wid (by omega)) ?_
  refine T_if1 (v_o7 ho).1.1 ?_
  refine T_getX (v_o7 ho) ⟨by omega, by omega⟩ ?_
  refine T_ite (fun q4 => ?_) (fun q4 => ?_)
  · rw [if_neg (by omega)] at hr; exact hr
  rw [if_pos (by omega)] at hr
  refine T_if1 (by decide) ?_
  refine T_let (mB / 2) (by rw [v_td2 bB.1]; exact v_wid (by omega)) ?_
  exact hr
theorem e_h117 (ho : y_ob2 o) (hk : 0 ≤ k ∧ k < 200) (hz : st < k → -1 ≤ s (o + 4) (k - 1) ∧ s (o + 4) (k - 1) ≤ 200) (h0 : 0 ≤ st) (bA : 0 ≤ mA ∧ mA ≤ 6)
    (hr : z_T (fX0_hang_J175 fu s o st t ln p f k nx ov (if 0 < ov ∧ st < k ∧ s (o + 4) (k - 1) + 2 = s (o + 2) k ∧ 0 < s (o + 8) (k - 1) then mA / 2 else mA) mB r kk) P) :
    z_T (fX0_hang_J117 fu s o st t ln p f k nx ov mA mB r kk) P := by
  obtain ⟨o0, o1, o2, o3, o4, o5, o6, o7, o8, o9⟩ := v_o ho
  refine T_of (fX0_hang_J117.eq_1 ..) ?_
  refine T_ite (fun q => ?_) (fun q => ?_)
  · rw [if_neg (by omega)] at hr; exact hr
  refine T_ite (fun q2 => ?_) (fun q2 => ?_)
  · rw [if_neg (by omega)] at hr; exact hr
  have z := hz (by omega)
  refine T_if1 o0 ?_
  refine T_let (o + 3) o3 ?_
  refine T_let (k - 1) (v_wid (by omega)) ?_
  refine T_if1 (v_o3 ho).1.1 ?_
  refine T_getX (v_o3 ho) ⟨by omega, by omega⟩ ?_
  refine T_let (s (o + 4) (k - 1) + 2) (v_wid (by omega)) ?_
  refine T_if1 o0 ?_
  refine T_let (o + 1) o2 ?_
  refine T_if1 (v_o1 ho).1.1 ?_
  refine T_getX (v_o1 ho) hk ?_
  refine T_ite (fun q3 => ?_) (fun q3 => ?_)
  · rw [if_neg (by omega)] at hr; exact hr
  refine T_if1 o0 ?_
  refine T_let (o + 7) o5 ?_
  refine T_let (k - 1) (v_wid (by omega)) ?_
  refine T_if1 (v_o7 ho).1.1 ?_
  refine T_getX (v_o7 ho) ⟨by omega, by omega⟩ ?_
  refine T_ite (fun q4 => ?_) (fun q4 => ?_)
  · rw [if_neg (by omega)] at hr; exact hr
  rw [if_pos (by omega)] at hr
  refine T_if1 (by decide) ?_
  refine T_let (mA / 2) (by rw [v_td2 bA.1]; exact v_wid (by omega)) ?_
  exact hr
end HA
/-- blocks of a trimmed line are blocks of the line -/
theorem y_Bl.up {D : z_M} {A B F Z : Int} (h : y_Bl D (y_fr D A B) (y_to D A B) F Z) (hAB : A ≤ B + 1) : y_Bl D A B F Z := by
  have ft := y_ft (D := D) hAB
  obtain ⟨h1, h2, h3, h4, h5, h6⟩ := h
  have ct : ∀ i : Int, y_fr D A B ≤ i → (y_ct D A i → y_ct D (y_fr D A B) i) := fun i p q => by
    refine ⟨?_, q.2⟩
    by_cases z : y_fr D A B < i
    · exact z
    · have e : i = y_fr D A B := by omega
      have q1 := q.1
      have := ft.2.2.1 (i - 1) (by omega) (by omega)
      have := q.2.2.1
      omega
  refine ⟨by omega, h2, by omega, ⟨h4.1, fun w => h4.2 (ct F h1 w)⟩, fun i p q => ⟨by omega, (h5 i p q).2⟩, fun w => ?_⟩
  by_cases z : Z < y_to D A B
  · exact h6 ⟨z, ct _ (by omega) w.2⟩
  · have := ft.2.2.2.1 (Z + 1) (by omega) (by omega)
    have := w.2.2.1
    omega
theorem y_sum_one {f : Int → Int} {x : Int} : ∀ (n : Nat) (a : Int), a ≤ x → x < a + n → (∀ i : Int, a ≤ i → i < a + n → i ≠ x → f i = 0) → y_sum f a n = f x := by
  intro n
  induction n with
  | zero => intro a h0 h1; omega
  | succ n ih =>
    intro a h0 h1 h
    rw [y_sum_s]
    by_cases q : x = a + n
    · rw [y_sum_0 (f := f) (a := a) (n := n) (fun i p r => h i p (by omega) (by omega)), q]
      omega
    · rw [ih a h0 (by omega) (fun i p r s => h i p (by omega) s), h (a + n) (by omega) (by omega) (by omega)]
      omega
theorem y_sum_2 {f g : Int → Int} {a : Int} : ∀ n : Nat, y_sum (fun i => f i + g i) a n = y_sum f a n + y_sum g a n := by
  intro n
  induction n with
  | zero => rfl
  | succ n ih =>
    rw [y_sum_s, y_sum_s, y_sum_s, ih]
    omega
/-- a part of a sum -/
theorem y_sum_pt {f : Int → Int} {a x y : Int} (h0 : a ≤ x) (h1 : x ≤ y) : y_sum f a (y - a).toNat = y_sum f a (x - a).toNat + y_sum f x (y - x).toNat := by
  have e := y_sum_add (f := f) (a := a) (x - a).toNat (y - x).toNat
  rw [show (y - a).toNat = (x - a).toNat + (y - x).toNat by omega, e, show a + (((x - a).toNat : Nat) : Int) = x by omega]
theorem y_pA_n {D : z_M} {A B ln u : Int} (h : y_wa D A B u = 0) : y_pA D A B ln u = 0 := by unfold y_pA; rw [h]; rfl
theorem y_pB_n {D : z_M} {A B ln u : Int} (h : y_wb D A B u = 0) : y_pB D A B ln u = 0 := by unfold y_pB; rw [h]; rfl
theorem y_w_in {D : z_M} {A B u : Int} (h0 : y_fr D A B ≤ u) (h1 : u < y_to D A B) : y_w D A B u = D 1 u := by
  unfold y_w; rw [if_neg (by omega), if_neg (by omega)]
theorem y_w_out {D : z_M} {A B u : Int} (h : u < y_fr D A B ∨ y_to D A B < u) : y_w D A B u = 0 := by
  unfold y_w; rw [if_pos h]
/-- what a block hangs over ahead of it, the class's way -/
theorem y_ahead {D : z_M} {n A B ln F Z : Int} (d : y_DF D n) (hb : y_Bl D A B F Z) (hA : 0 ≤ A) (hB : B < n) (hn : n ≤ 200) (hf : y_fr D A B ≤ F) (ht : F ≤ y_to D A B) (hl : 0 ≤ ln ∧ ln ≤ 6) {C : Prop} [Decidable C]
    (hC : 0 < y_BO D F Z → (C ↔ (A ≤ F - 2 ∧ D 0 (F - 1) ≠ 7 ∧ 0 < y_wb D A B (F - 2)))) :
    z_min (y_BO D F Z / 2) (if 0 < y_BO D F Z ∧ C then (if y_fr D A B < F then y_rm (D 0 (F - 1)) ln 1 else 0) / 2 else (if y_fr D A B < F then y_rm (D 0 (F - 1)) ln 1 else 0)) = y_BO D F Z / 2 - y_pA D A B ln F := by
  have hAB : A ≤ B + 1 := by have := hb.1; have := hb.2.1; have := hb.2.2.1; omega
  have ft := y_ft (D := D) hAB
  have bo := y_BO_b d hb hA hB hn
  have ewa := hb.wa (Int.le_refl F) hb.2.1
  rw [if_pos rfl] at ewa
  have K7 := hb.k (Int.le_refl F) hb.2.1
  have fA := hb.1
  have FB : F ≤ B := by have := hb.2.1; have := hb.2.2.1; omega
  have rb := y_rm_b (K := D 0 (F - 1)) (ah := 1) hl
  generalize y_BO D F Z = O at *
  by_cases z : O = 0
  · subst z
    rw [if_neg (by omega), y_pA_n (by rw [ewa]; rfl)]
    have m0 : 0 ≤ (if y_fr D A B < F then y_rm (D 0 (F - 1)) ln 1 else 0) := by
      by_cases q : y_fr D A B < F
      · rw [if_pos q]; exact rb.1
      · rw [if_neg q]; exact Int.le_refl 0
    have m := z_minb (0 / 2) (if y_fr D A B < F then y_rm (D 0 (F - 1)) ln 1 else 0)
    omega
  · have O6 : 6 ≤ O := by omega
    have hC' := hC (by omega)
    have e : (if 0 < O ∧ C then (if y_fr D A B < F then y_rm (D 0 (F - 1)) ln 1 else 0) / 2 else (if y_fr D A B < F then y_rm (D 0 (F - 1)) ln 1 else 0)) = y_mA D A B ln F := by
      unfold y_mA
      by_cases q : F = A
      · rw [if_pos q, if_neg (show ¬ y_fr D A B < F by omega)]
        by_cases c : 0 < O ∧ C
        · rw [if_pos c]; rfl
        · rw [if_neg c]
      · rw [if_neg q]
        have el : (if y_fr D A B < F then y_rm (D 0 (F - 1)) ln 1 else 0) = y_lA D A B ln (F - 1) := by
          unfold y_lA
          by_cases g : y_fr D A B < F
          · rw [if_pos g]
            have dk := (d (F - 1) (by omega) (by omega))
            unfold y_rm
            by_cases k0 : D 0 (F - 1) = 0 ∨ D 0 (F - 1) = 1 ∨ D 0 (F - 1) = 2
            · rw [if_pos k0, if_pos k0]
            · rw [if_neg k0, if_neg k0]
              by_cases k6 : D 0 (F - 1) = 6
              · rw [if_pos k6, if_pos k6, y_w_in (by omega) (by omega), dk.2.2.1 k6]
              · rw [if_neg k6, if_neg k6]
                by_cases k3 : D 0 (F - 1) = 3 ∨ D 0 (F - 1) = 5
                · rw [if_pos k3, if_neg (show ¬ (1 : Int) = 0 by decide)]
                  unfold y_sB
                  rw [if_pos ⟨k3, by omega, by rw [show F - 1 + 1 = F by omega]; omega, by rw [show F - 1 + 1 = F by omega]; omega⟩]
                · rw [if_neg k3, y_sB_n (fun x => k3 (Or.inl x)) (fun x => k3 (Or.inr x))]
                  by_cases k4 : D 0 (F - 1) = 4
                  · rw [if_pos k4, if_neg (show ¬ (1 : Int) = 0 by decide)]
                  · rw [if_neg k4]
          · rw [if_neg g]
            have k6 := ft.2.2.1 (F - 1) (by omega) (by omega)
            rw [if_neg (by omega), if_pos k6, y_w_out (Or.inl (by omega))]
        rw [el]
        by_cases c : C
        · rw [if_pos ⟨by omega, c⟩, if_pos (hC'.mp c)]
        · rw [if_neg (fun x => c x.2), if_neg (fun x => c (hC'.mpr x))]
    rw [e]
    unfold y_pA
    rw [ewa, if_pos (by omega)]
    have m1 := z_minb (O / 2) (y_mA D A B ln F)
    have m2 := z_maxb 0 (O / 2 - y_mA D A B ln F)
    omega
/-- and behind it -/
theorem y_behind {D : z_M} {n A B ln F Z : Int} (d : y_DF D n) (hb : y_Bl D A B F Z) (hA : 0 ≤ A) (hB : B < n) (hn : n ≤ 200) (hf : y_fr D A B ≤ F) (ht : Z ≤ y_to D A B) (hl : 0 ≤ ln ∧ ln ≤ 6) {C : Prop} [Decidable C]
    (hC : 0 < y_BO D F Z → (C ↔ (Z + 2 ≤ B ∧ D 0 (Z + 1) ≠ 7 ∧ 0 < y_wa D A B (Z + 2)))) :
    z_min (y_BO D F Z - y_BO D F Z / 2) (if 0 < y_BO D F Z ∧ C then (if Z + 1 ≤ y_to D A B then y_rm (D 0 (Z + 1)) ln 0 else 0) / 2 else (if Z + 1 ≤ y_to D A B then y_rm (D 0 (Z + 1)) ln 0 else 0)) = y_BO D F Z - y_BO D F Z / 2 - y_pB D A B ln Z := by
  have hAB : A ≤ B + 1 := by have := hb.1; have := hb.2.1; have := hb.2.2.1; omega
  have ft := y_ft (D := D) hAB
  have bo := y_BO_b d hb hA hB hn
  have ewb := hb.wb hb.2.1 (Int.le_refl Z)
  rw [if_pos rfl] at ewb
  have K7 := hb.k hb.2.1 (Int.le_refl Z)
  have zB := hb.2.2.1
  have FZ := hb.2.1
  have FA := hb.1
  have rb := y_rm_b (K := D 0 (Z + 1)) (ah := 0) hl
  generalize y_BO D F Z = O at *
  by_cases z : O = 0
  · subst z
    rw [if_neg (by omega), y_pB_n (by rw [ewb]; rfl)]
    have m0 : 0 ≤ (if Z + 1 ≤ y_to D A B then y_rm (D 0 (Z + 1)) ln 0 else 0) := by
      by_cases q : Z + 1 ≤ y_to D A B
      · rw [if_pos q]; exact rb.1
      · rw [if_neg q]; exact Int.le_refl 0
    have m := z_minb (0 - 0 / 2) (if Z + 1 ≤ y_to D A B then y_rm (D 0 (Z + 1)) ln 0 else 0)
    omega
  · have O6 : 6 ≤ O := by omega
    have hC' := hC (by omega)
    have e : (if 0 < O ∧ C then (if Z + 1 ≤ y_to D A B then y_rm (D 0 (Z + 1)) ln 0 else 0) / 2 else (if Z + 1 ≤ y_to D A B then y_rm (D 0 (Z + 1)) ln 0 else 0)) = y_mB D A B ln Z := by
      unfold y_mB
      by_cases q : Z = B
      · rw [if_pos q, if_neg (show ¬ Z + 1 ≤ y_to D A B by omega)]
        by_cases c : 0 < O ∧ C
        · rw [if_pos c]; rfl
        · rw [if_neg c]
      · rw [if_neg q]
        have el : (if Z + 1 ≤ y_to D A B then y_rm (D 0 (Z + 1)) ln 0 else 0) = y_lB D A B ln (Z + 1) := by
          unfold y_lB
          by_cases g : Z + 1 ≤ y_to D A B
          · rw [if_pos g]
            have dk := (d (Z + 1) (by omega) (by omega))
            unfold y_rm
            by_cases k0 : D 0 (Z + 1) = 0 ∨ D 0 (Z + 1) = 1 ∨ D 0 (Z + 1) = 2
            · rw [if_pos k0, if_pos k0]
            · rw [if_neg k0, if_neg k0]
              by_cases k6 : D 0 (Z + 1) = 6
              · have lt : Z + 1 < y_to D A B := by
                  by_cases w : Z + 1 < y_to D A B
                  · exact w
                  · have := (ft.2.2.2.2.1 (by omega)).2.1
                    rw [show y_to D A B = Z + 1 by omega] at this
                    exact absurd k6 this
                rw [if_pos k6, if_pos k6, y_w_in (by omega) lt, dk.2.2.1 k6]
              · rw [if_neg k6, if_neg k6]
                by_cases k4 : D 0 (Z + 1) = 4
                · rw [if_neg (show ¬ (D 0 (Z + 1) = 3 ∨ D 0 (Z + 1) = 5) by omega), if_pos k4, if_pos rfl]
                  unfold y_sA
                  rw [if_pos ⟨k4, by omega, by rw [show Z + 1 - 1 = Z by omega]; omega, by rw [show Z + 1 - 1 = Z by omega]; omega, by rw [show Z + 1 - 1 = Z by omega]; omega⟩]
                · rw [y_sA_n k4, if_neg k4]
                  by_cases k3 : D 0 (Z + 1) = 3 ∨ D 0 (Z + 1) = 5
                  · rw [if_pos k3, if_pos rfl]
                  · rw [if_neg k3]
          · rw [if_neg g]
            have k6 := ft.2.2.2.1 (Z + 1) (by omega) (by omega)
            rw [if_neg (by omega), if_pos k6, y_w_out (Or.inr (by omega))]
        rw [el]
        by_cases c : C
        · rw [if_pos ⟨by omega, c⟩, if_pos (hC'.mp c)]
        · rw [if_neg (fun x => c x.2), if_neg (fun x => c (hC'.mpr x))]
    rw [e]
    unfold y_pB
    rw [ewb, if_pos (by omega)]
    have m1 := z_minb (O - O / 2) (y_mB D A B ln Z)
    have m2 := z_maxb 0 (O - O / 2 - y_mB D A B ln Z)
    omega
