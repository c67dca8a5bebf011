/-! READING: what a step of the class's reader does, as a formula on the numbers -/
theorem zb_I {x : Int} {s : z_M} {f : Int → z_M → z_O} : z_bI (some (vI x, s)) f = f x s := rfl
theorem zb_L {x : Int} {s : z_M} {f : Int → z_M → z_O} : z_bL (some (vL x, s)) f = f x s := rfl
theorem zb_N {s : z_M} {f : z_M → z_O} : z_bN (some (vN, s)) f = f s := rfl
theorem ob32 : z_ob 32 6 := by decide +kernel
theorem ob19 : z_ob 19 9 := by decide +kernel
theorem ob20 : z_ob 20 7 := by decide +kernel
theorem ob22 : z_ob 22 7 := by decide +kernel
theorem ob24 : z_ob 24 7 := by decide +kernel
theorem ob26 : z_ob 26 7 := by decide +kernel
theorem ob28 : z_ob 28 4 := by decide +kernel
theorem ob30 : z_ob 30 4 := by decide +kernel
theorem rw20 : z_rw 20 := by decide +kernel
theorem rw22 : z_rw 22 := by decide +kernel
theorem rw24 : z_rw 24 := by decide +kernel
theorem rw26 : z_rw 26 := by decide +kernel
theorem lr28 : z_lr 28 := by decide +kernel
theorem lr30 : z_lr 30 := by decide +kernel
theorem gr32 : z_gr 32 0 = 19 := by decide +kernel
theorem gr19_0 : z_gr 19 0 = 20 := by decide +kernel
theorem gr19_1 : z_gr 19 1 = 22 := by decide +kernel
theorem gr19_2 : z_gr 19 2 = 24 := by decide +kernel
theorem gr19_3 : z_gr 19 3 = 26 := by decide +kernel
theorem gr19_4 : z_gr 19 4 = 28 := by decide +kernel
theorem gr19_5 : z_gr 19 5 = 30 := by decide +kernel
theorem gr20 : z_gr 20 0 = 21 := by decide +kernel
theorem gr22 : z_gr 22 0 = 23 := by decide +kernel
theorem gr24 : z_gr 24 0 = 25 := by decide +kernel
theorem gr26 : z_gr 26 0 = 27 := by decide +kernel
theorem gr28 : z_gr 28 0 = 29 := by decide +kernel
theorem gr30 : z_gr 30 0 = 31 := by decide +kernel
theorem rp_19 {s : z_M} {k c i v j : Int} (hc : z_gr k 0 = c) (h : c ≠ 19) : z_rp s k i v 19 j = s 19 j := z_rp_f (by rw [hc]; exact Ne.symm h)
def y_add (s : z_M) (code grp hd mk : Int) : z_M := z_up (z_rp (z_rp (z_rp (z_rp (z_rp (z_rp s 20 (s 19 6) code) 22 (s 19 6) mk) 24 (s 19 6) grp) 26 (s 19 6) hd) 28 (s 19 6) 0) 30 (s 19 6) 0) 19 6 (z_w (s 19 6 + 1))
theorem e_add9 {fu : Nat} {s : z_M} {code grp hd mk : Int} : fX9_add fu s 19 code grp hd mk = some (vN, y_add s code grp hd mk) := by
  unfold fX9_add y_add
  simp only [z_let, if_pos ob19, if_pos ob20, if_pos ob22, if_pos ob24, if_pos ob26, if_pos ob28, if_pos ob30, gr19_0, gr19_1, gr19_2, gr19_3, gr19_4, gr19_5, e_put rw20, e_put rw22, e_put rw24, e_put rw26, e_lput lr28, e_lput lr30, zb_N, rp_19 gr20 (by decide), rp_19 gr22 (by decide), rp_19 gr24 (by decide), rp_19 gr26 (by decide), rp_19 gr28 (by decide), rp_19 gr30 (by decide)]
abbrev y_big (c : Int) : Prop := 65 ≤ c ∧ c ≤ 90
abbrev y_sml (c : Int) : Prop := 97 ≤ c ∧ c ≤ 122
abbrev y_alo (c : Int) : Prop := y_sml c ∨ (48 ≤ c ∧ c ≤ 57) ∨ c = 46 ∨ c = 44 ∨ c = 40 ∨ c = 41 ∨ c = 32
theorem bl1 : z_bl 1 := by decide
theorem bl0 : z_bl 0 := by decide
theorem e_big6 {fu : Nat} {s : z_M} {c : Int} : fX6_isBig fu s c = some (vI (if y_big c then 1 else 0), s) := by
  unfold fX6_isBig fX6_isBig_J16 fX6_isBig_J17
  by_cases h : c < 65
  · rw [if_pos h, if_pos bl0, if_neg (by omega)]
  · rw [if_neg h]
    by_cases h2 : 90 < c
    · rw [if_pos h2, if_pos bl0, if_neg (by omega)]
    · rw [if_neg h2, if_pos bl1, if_pos (by omega)]
theorem e_sml6 {fu : Nat} {s : z_M} {c : Int} : fX6_isSmall fu s c = some (vI (if y_sml c then 1 else 0), s) := by
  unfold fX6_isSmall fX6_isSmall_J16 fX6_isSmall_J17
  by_cases h : c < 97
  · rw [if_pos h, if_pos bl0, if_neg (by omega)]
  · rw [if_neg h]
    by_cases h2 : 122 < c
    · rw [if_pos h2, if_pos bl0, if_neg (by omega)]
    · rw [if_neg h2, if_pos bl1, if_pos (by omega)]
theorem e_alo6 {fu : Nat} {s : z_M} {c : Int} : fX6_standsAlone fu s c = some (vI (if y_alo c then 1 else 0), s) := by
  have k1 : fX6_standsAlone_J49 fu s = some (vI 1, s) := by
    unfold fX6_standsAlone_J49 fX6_standsAlone_J54; rw [if_pos bl1]
  have k0 : fX6_standsAlone_J54 fu s 0 = some (vI 0, s) := by
    unfold fX6_standsAlone_J54; rw [if_pos bl0]
  unfold fX6_standsAlone
  rw [e_sml6, zb_I]
  have k2 : (48 ≤ c ∧ c ≤ 57 → False) → ¬ y_sml c → fX6_standsAlone_J19 fu s c = some (vI (if y_alo c then 1 else 0), s) := fun q1 q2 => by
    have q1' : ¬ (48 ≤ c ∧ c ≤ 57) := q1
    have q2' : ¬ (97 ≤ c ∧ c ≤ 122) := q2
    unfold fX6_standsAlone_J19
    rw [k1, k0]
    by_cases h1 : c = 46
    · rw [if_pos h1, if_pos (by omega)]
    · rw [if_neg h1]
      by_cases h2 : c = 44
      · rw [if_pos h2, if_pos (by omega)]
      · rw [if_neg h2]
        by_cases h3 : c = 40
        · rw [if_pos h3, if_pos (by omega)]
        · rw [if_neg h3]
          by_cases h4 : c = 41
          · rw [if_pos h4, if_pos (by omega)]
          · rw [if_neg h4]
            by_cases h5 : c = 32
            · rw [if_neg (by omega), if_pos (by omega)]
            · rw [if_pos h5, if_neg (by unfold y_alo y_sml; omega)]
  by_cases h : y_sml c
  · rw [if_pos h, if_pos (by decide), k1, if_pos (Or.inl h)]
  · rw [if_neg h, if_neg (by decide)]
    by_cases h2 : c < 48
    · rw [if_pos h2, k2 (by omega) h]
    · rw [if_neg h2]
      by_cases h3 : c ≤ 57
      · rw [if_pos h3, k1, if_pos (by omega)]
      · rw [if_neg h3, k2 (by omega) h]
/-- a reason and the numbers -/
abbrev y_RS := Int × z_M
def y_out (r : y_RS) : z_O := some (vI r.1, r.2)
theorem y_out_ite {p : Prop} [Decidable p] {a b : y_RS} : y_out (if p then a else b) = if p then y_out a else y_out b := by
  by_cases h : p
  · rw [if_pos h, if_pos h]
  · rw [if_neg h, if_neg h]
def y_as (s : z_M) (code grp hd mk : Int) : y_RS := if s 19 6 < 200 then (0, y_add s code grp hd mk) else (2, s)
theorem e_as6 {fu : Nat} {s : z_M} {code grp hd mk : Int} : fX6_addSign fu s 32 code grp hd mk = y_out (y_as s code grp hd mk) := by
  unfold fX6_addSign y_as
  simp only [z_let, if_pos ob32, gr32, if_pos ob19, e_add9, zb_N, y_out_ite]
  rfl
theorem zb_out {r : y_RS} {f : Int → z_M → z_O} : z_bI (y_out r) f = f r.1 r.2 := rfl
theorem y_out_eta {r : y_RS} : (some (vI r.1, r.2) : z_O) = y_out r := rfl
theorem e_mark0 {fu : Nat} {s : z_M} : fX10_markBit fu s 0 = some (vI 1, s) := by
  unfold fX10_markBit fX10_markBit_J9
  rw [if_neg (by decide)]
theorem e_mark1 {fu : Nat} {s : z_M} : fX10_markBit fu s 1 = some (vI 2, s) := by
  unfold fX10_markBit fX10_markBit_J9
  rw [if_pos (by decide)]
def y_so (s : z_M) (c : Int) : y_RS := if c = 42 then (0, z_up s 19 8 (z_xor (s 19 8) 1)) else if c = 95 then (0, z_up s 19 8 (z_xor (s 19 8) 2)) else if c = 123 then (0, z_up (z_up (z_up s 19 7 (z_w (s 19 7 + 1))) 32 2 0) 32 1 1) else if y_big c then y_as s c (-1) 0 (s 19 8) else if y_alo c then y_as s c (-1) 0 0 else (1, s)
theorem ite10 {p : Prop} [Decidable p] {α : Type} {a b : α} : (if (if p then (1 : Int) else 0) = 0 then a else b) = if p then b else a := by
  by_cases h : p
  · rw [if_pos h, if_neg (by decide), if_pos h]
  · rw [if_neg h, if_pos rfl, if_neg h]
theorem ite10n {p : Prop} [Decidable p] {α : Type} {a b : α} : (if (if p then (1 : Int) else 0) ≠ 0 then a else b) = if p then a else b := by
  by_cases h : p
  · rw [if_pos h, if_pos (by decide), if_pos h]
  · rw [if_neg h, if_neg (by decide), if_neg h]
theorem ite_n {p : Prop} [Decidable p] {α : Type} {a b : α} : (if ¬ p then a else b) = if p then b else a := by
  by_cases h : p
  · rw [if_neg (fun q => q h), if_pos h]
  · rw [if_pos h, if_neg h]
theorem e_so6 {fu : Nat} {s : z_M} {c : Int} : fX6_stepOutside fu s 32 c = y_out (y_so s c) := by
  unfold fX6_stepOutside fX6_stepOutside_J120 y_so
  simp only [z_let, if_pos ob32, gr32, if_pos ob19, e_big6, e_alo6, e_as6, zb_I, zb_out, e_mark0, e_mark1, y_out_ite, y_out_eta, ite10, ne_eq, ite_n]
  rfl
def y_sd (s : z_M) (c : Int) : y_RS := if s 32 2 = 4 then (1, s) else if y_big c then y_as (z_up (z_up (z_up (z_up s 32 2 (z_w (s 32 2 + 1))) 32 3 1) 32 5 (s 19 6)) 32 1 2) c (z_w (s 19 7 - 1)) 1 (s 19 8) else (1, s)
theorem up32 {s : z_M} {j v b : Int} : z_up s 32 j v 19 b = s 19 b := z_up_k (by decide)
theorem e_of {E : z_O} {r : y_RS} (h : z_T E (fun v t => v = vI r.1 ∧ t = r.2)) : E = y_out r := by
  obtain ⟨v, t, e, rfl, rfl⟩ := h
  exact e
theorem T_as {fu : Nat} {s : z_M} {code grp hd mk : Int} {r : y_RS} (e : y_as s code grp hd mk = r) : z_T (z_bI (fX6_addSign fu s 32 code grp hd mk) (fun x t => some (vI x, t))) (fun v t => v = vI r.1 ∧ t = r.2) := by
  rw [e_as6, e]
  exact T_ret ⟨rfl, rfl⟩
theorem e_sd6 {fu : Nat} {s : z_M} {c : Int} : fX6_stepBaseDue fu s 32 c = y_out (y_sd s c) := by
  refine e_of ?_
  refine T_of (fX6_stepBaseDue.eq_1 ..) ?_
  refine T_if1 ob32 ?_
  refine T_let (s 32 2) rfl ?_
  by_cases h : s 32 2 = 4
  · refine T_if1 h ?_
    rw [show y_sd s c = (1, s) from if_pos h]
    exact T_of (fX6_stepBaseDue_J15.eq_1 ..) (T_ret ⟨rfl, rfl⟩)
  · refine T_if0 h ?_
    refine T_bI (T_of e_big6 (T_rI ?_))
    by_cases hb : y_big c
    · rw [if_pos hb]
      refine T_if1 (by decide) ?_
      refine T_if1 ob32 ?_
      refine T_let (s 32 2) rfl ?_
      refine T_let (z_w (s 32 2 + 1)) rfl ?_
      refine T_if1 ob32 ?_
      refine T_up ?_
      refine T_if1 ob32 ?_
      refine T_up ?_
      refine T_if1 ob32 ?_
      refine T_let 19 gr32 ?_
      refine T_if1 ob19 ?_
      refine T_let (s 19 6) (by rw [up32, up32]) ?_
      refine T_if1 ob32 ?_
      refine T_up ?_
      refine T_if1 ob32 ?_
      refine T_up ?_
      refine T_if1 ob32 ?_
      refine T_let 19 gr32 ?_
      refine T_if1 ob19 ?_
      refine T_let (s 19 7) (by rw [up32, up32, up32, up32]) ?_
      refine T_let (z_w (s 19 7 - 1)) rfl ?_
      refine T_if1 ob32 ?_
      refine T_let 19 gr32 ?_
      refine T_if1 ob19 ?_
      refine T_let (s 19 8) (by rw [up32, up32, up32, up32]) ?_
      refine T_if1 ob32 ?_
      exact T_as (by unfold y_sd; rw [if_neg h, if_pos hb])
    · rw [if_neg hb]
      refine T_if0 (by decide) ?_
      rw [show y_sd s c = (1, s) by unfold y_sd; rw [if_neg h, if_neg hb]]
      exact T_of (fX6_stepBaseDue_J15.eq_1 ..) (T_ret ⟨rfl, rfl⟩)
def y_si (s : z_M) (c : Int) : y_RS := if c = 124 then (0, z_up (z_up (z_up s 32 6 0) 32 4 0) 32 1 3) else if s 32 3 = 3 then (1, s) else if y_big c then y_as (z_up s 32 3 (z_w (s 32 3 + 1))) c (z_w (s 19 7 - 1)) 0 (s 19 8) else (1, s)
theorem e_si6 {fu : Nat} {s : z_M} {c : Int} : fX6_stepInBase fu s 32 c = y_out (y_si s c) := by
  refine e_of ?_
  refine T_of (fX6_stepInBase.eq_1 ..) ?_
  by_cases h0 : c = 124
  · refine T_if0 (fun q => q h0) ?_
    rw [show y_si s c = (0, z_up (z_up (z_up s 32 6 0) 32 4 0) 32 1 3) from if_pos h0]
    refine T_if1 ob32 ?_
    refine T_up ?_
    refine T_if1 ob32 ?_
    refine T_up ?_
    refine T_if1 ob32 ?_
    refine T_up ?_
    exact T_ret ⟨rfl, rfl⟩
  · refine T_if1 h0 ?_
    refine T_if1 ob32 ?_
    refine T_let (s 32 3) rfl ?_
    by_cases h : s 32 3 = 3
    · refine T_if1 h ?_
      rw [show y_si s c = (1, s) by unfold y_si; rw [if_neg h0, if_pos h]]
      exact T_of (fX6_stepInBase_J38.eq_1 ..) (T_ret ⟨rfl, rfl⟩)
    · refine T_if0 h ?_
      refine T_bI (T_of e_big6 (T_rI ?_))
      by_cases hb : y_big c
      · rw [if_pos hb]
        refine T_if1 (by decide) ?_
        refine T_if1 ob32 ?_
        refine T_let (s 32 3) rfl ?_
        refine T_let (z_w (s 32 3 + 1)) rfl ?_
        refine T_if1 ob32 ?_
        refine T_up ?_
        refine T_if1 ob32 ?_
        refine T_let 19 gr32 ?_
        refine T_if1 ob19 ?_
        refine T_let (s 19 7) (by rw [up32]) ?_
        refine T_let (z_w (s 19 7 - 1)) rfl ?_
        refine T_if1 ob32 ?_
        refine T_let 19 gr32 ?_
        refine T_if1 ob19 ?_
        refine T_let (s 19 8) (by rw [up32]) ?_
        refine T_if1 ob32 ?_
        exact T_as (by unfold y_si; rw [if_neg h0, if_neg h, if_pos hb])
      · rw [if_neg hb]
        refine T_if0 (by decide) ?_
        rw [show y_si s c = (1, s) by unfold y_si; rw [if_neg h0, if_neg h, if_neg hb]]
        exact T_of (fX6_stepInBase_J38.eq_1 ..) (T_ret ⟨rfl, rfl⟩)
/-- a letter of a reading: the long that is kept -/
def y_lt6 (x c : Int) : Int := z_wl (z_wl (x + 1) + z_lshl (z_w (c - 97)) (z_w (4 + z_w (5 * z_w (z_landl x 15)))))
def y_rdo (d : Int) : Int := if d = 0 then 28 else 30
def y_al (s : z_M) (d i c : Int) : z_M := z_rp s (y_rdo d) i (y_lt6 (z_rg s (y_rdo d) i) c)
theorem e_rd9 {fu : Nat} {s : z_M} {d : Int} : fX9_readings fu s 19 d = some (vR (y_rdo d), s) := by
  unfold fX9_readings fX9_readings_J15 y_rdo
  by_cases h : d = 0
  · rw [if_neg (fun q => q h), if_pos ob19, if_pos h]
    show (some (vR (z_gr 19 4), s) : z_O) = _
    rw [gr19_4]
  · rw [if_pos h, if_pos ob19, if_neg h]
    show (some (vR (z_gr 19 5), s) : z_O) = _
    rw [gr19_5]
theorem lr_rdo {d : Int} : z_lr (y_rdo d) := by
  unfold y_rdo
  by_cases h : d = 0
  · rw [if_pos h]; exact lr28
  · rw [if_neg h]; exact lr30
theorem e_al9 {fu : Nat} {s : z_M} {d i c : Int} : fX9_addLetter fu s 19 d i c = some (vN, y_al s d i c) := by
  unfold fX9_addLetter
  rw [if_pos ob19, e_rd9]
  show (if z_ob (y_rdo d) 4 then _ else _) = _
  rw [if_pos lr_rdo.1, e_lget lr_rdo]
  show (if z_ob (y_rdo d) 4 then _ else _) = _
  rw [if_pos lr_rdo.1, e_lput lr_rdo]
  rfl
def y_sr (s : z_M) (c : Int) : y_RS := if y_sml c ∧ s 32 4 < 9 then (0, y_al (z_up s 32 4 (z_w (s 32 4 + 1))) (s 32 6) (s 32 5) c) else if s 32 4 = 0 ∨ y_sml c then (1, s) else if c = 124 ∧ s 32 6 = 0 then (0, z_up (z_up s 32 6 1) 32 4 0) else if c = 59 then (0, z_up s 32 1 1) else if c = 125 then (0, z_up s 32 1 0) else (1, s)
theorem k_sr85 {fu : Nat} {s : z_M} {c : Int} (h1 : ¬ (y_sml c ∧ s 32 4 < 9)) (h2 : ¬ (s 32 4 = 0 ∨ y_sml c)) (h3 : ¬ (c = 124 ∧ s 32 6 = 0)) : z_T (fX6_stepInReading_J85 fu s 32 c) (fun v t => v = vI (y_sr s c).1 ∧ t = (y_sr s c).2) := by
  refine T_of (fX6_stepInReading_J85.eq_1 ..) ?_
  have e0 : y_sr s c = if c = 59 then (0, z_up s 32 1 1) else if c = 125 then (0, z_up s 32 1 0) else (1, s) := by unfold y_sr; rw [if_neg h1, if_neg h2, if_neg h3]
  by_cases h : c = 59
  · rw [show y_sr s c = (0, z_up s 32 1 1) by rw [e0, if_pos h]]
    refine T_if1 h ?_
    refine T_of (fX6_stepInReading_J97.eq_1 ..) ?_
    refine T_if0 (fun q => q h) ?_
    refine T_of (fX6_stepInReading_J109.eq_1 ..) ?_
    refine T_if1 ob32 ?_
    refine T_up ?_
    exact T_ret ⟨rfl, rfl⟩
  · refine T_if0 h ?_
    by_cases h5 : c = 125
    · rw [show y_sr s c = (0, z_up s 32 1 0) by rw [e0, if_neg h, if_pos h5]]
      refine T_if0 (fun q => q h5) ?_
      refine T_of (fX6_stepInReading_J97.eq_1 ..) ?_
      refine T_if1 h ?_
      refine T_of (fX6_stepInReading_J109.eq_1 ..) ?_
      refine T_if1 ob32 ?_
      refine T_up ?_
      exact T_ret ⟨rfl, rfl⟩
    · rw [show y_sr s c = (1, s) by rw [e0, if_neg h, if_neg h5]]
      refine T_if1 h5 ?_
      exact T_ret ⟨rfl, rfl⟩
theorem k_sr44 {fu : Nat} {s : z_M} {c : Int} (h1 : ¬ (y_sml c ∧ s 32 4 < 9)) : z_T (fX6_stepInReading_J44 fu s 32 c) (fun v t => v = vI (y_sr s c).1 ∧ t = (y_sr s c).2) := by
  refine T_of (fX6_stepInReading_J44.eq_1 ..) ?_
  refine T_if1 ob32 ?_
  refine T_let (s 32 4) rfl ?_
  by_cases h0 : s 32 4 = 0
  · refine T_if1 h0 ?_
    rw [show y_sr s c = (1, s) by unfold y_sr; rw [if_neg h1, if_pos (Or.inl h0)]]
    exact T_of (fX6_stepInReading_J58.eq_1 ..) (T_ret ⟨rfl, rfl⟩)
  · refine T_if0 h0 ?_
    refine T_bI (T_of e_sml6 (T_rI ?_))
    by_cases hs : y_sml c
    · rw [if_pos hs]
      refine T_if0 (by decide) ?_
      rw [show y_sr s c = (1, s) by unfold y_sr; rw [if_neg h1, if_pos (Or.inr hs)]]
      exact T_of (fX6_stepInReading_J58.eq_1 ..) (T_ret ⟨rfl, rfl⟩)
    · rw [if_neg hs]
      have h2 : ¬ (s 32 4 = 0 ∨ y_sml c) := fun q => q.elim h0 hs
      refine T_if1 rfl ?_
      by_cases hc : c = 124
      · refine T_if0 (fun q => q hc) ?_
        refine T_if1 ob32 ?_
        refine T_let (s 32 6) rfl ?_
        by_cases hd : s 32 6 = 0
        · refine T_if0 (fun q => q hd) ?_
          refine T_if1 ob32 ?_
          refine T_up ?_
          refine T_if1 ob32 ?_
          refine T_up ?_
          rw [show y_sr s c = (0, z_up (z_up s 32 6 1) 32 4 0) by unfold y_sr; rw [if_neg h1, if_neg h2, if_pos ⟨hc, hd⟩]]
          exact T_ret ⟨rfl, rfl⟩
        · refine T_if1 hd ?_
          exact k_sr85 h1 h2 (fun q => hd q.2)
      · refine T_if1 hc ?_
        exact k_sr85 h1 h2 (fun q => hc q.1)
theorem e_sr6 {fu : Nat} {s : z_M} {c : Int} : fX6_stepInReading fu s 32 c = y_out (y_sr s c) := by
  refine e_of ?_
  refine T_of (fX6_stepInReading.eq_1 ..) ?_
  refine T_bI (T_of e_sml6 (T_rI ?_))
  by_cases hs : y_sml c
  · rw [if_pos hs]
    refine T_if0 (by decide) ?_
    refine T_if1 ob32 ?_
    refine T_let (s 32 4) rfl ?_
    by_cases h9 : 9 ≤ s 32 4
    · refine T_if1 h9 ?_
      exact k_sr44 (fun q => by omega)
    · refine T_if0 h9 ?_
      rw [show y_sr s c = (0, y_al (z_up s 32 4 (z_w (s 32 4 + 1))) (s 32 6) (s 32 5) c) from if_pos ⟨hs, by omega⟩]
      refine T_if1 ob32 ?_
      refine T_let (s 32 4) rfl ?_
      refine T_let (z_w (s 32 4 + 1)) rfl ?_
      refine T_if1 ob32 ?_
      refine T_up ?_
      refine T_if1 ob32 ?_
      refine T_let 19 gr32 ?_
      refine T_if1 ob32 ?_
      refine T_let (s 32 6) (z_up_j (by decide)) ?_
      refine T_if1 ob32 ?_
      refine T_let (s 32 5) (z_up_j (by decide)) ?_
      refine T_if1 ob19 ?_
      refine T_bN (T_of e_al9 (T_rN ?_))
      exact T_ret ⟨rfl, rfl⟩
  · rw [if_neg hs]
    refine T_if1 rfl ?_
    exact k_sr44 (fun q => hs q.1)
def y_st (s : z_M) (c : Int) : y_RS := if s 32 1 = 0 then y_so s c else if s 32 1 = 1 then y_sd s c else if s 32 1 = 2 then y_si s c else y_sr s c
theorem e_st6 {fu : Nat} {s : z_M} {c : Int} : fX6_step fu s 32 c = y_out (y_st s c) := by
  refine e_of ?_
  refine T_of (fX6_step.eq_1 ..) ?_
  refine T_if1 ob32 ?_
  refine T_let (s 32 1) rfl ?_
  unfold y_st
  by_cases h0 : s 32 1 = 0
  · refine T_if1 h0 ?_
    refine T_if1 ob32 ?_
    rw [e_so6, if_pos h0]
    exact T_ret ⟨rfl, rfl⟩
  · refine T_if0 h0 ?_
    rw [if_neg h0]
    by_cases h1 : s 32 1 = 1
    · refine T_if1 h1 ?_
      refine T_if1 ob32 ?_
      rw [e_sd6, if_pos h1]
      exact T_ret ⟨rfl, rfl⟩
    · refine T_if0 h1 ?_
      rw [if_neg h1]
      by_cases h2 : s 32 1 = 2
      · refine T_if1 h2 ?_
        refine T_if1 ob32 ?_
        rw [e_si6, if_pos h2]
        exact T_ret ⟨rfl, rfl⟩
      · refine T_if0 h2 ?_
        rw [if_neg h2]
        refine T_if1 ob32 ?_
        rw [e_sr6]
        exact T_ret ⟨rfl, rfl⟩
