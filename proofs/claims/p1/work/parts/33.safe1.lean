/-! SAFETY, 2: the bounds that are wanted, the instances (by program, wip/tool/mksafe.py) -/
theorem bdr_12 (j : Int) : z_bd 12 j = ((-2147483648), 2147483647) := by
  unfold z_bd
  repeat (first | rw [if_neg (by omega)] | rw [if_pos (by omega)])
  try rfl
theorem bdr_14 (j : Int) : z_bd 14 j = ((-2147483648), 2147483647) := by
  unfold z_bd
  repeat (first | rw [if_neg (by omega)] | rw [if_pos (by omega)])
  try rfl
theorem bdr_16 (j : Int) : z_bd 16 j = ((-9223372036854775808), 9223372036854775807) := by
  unfold z_bd
  repeat (first | rw [if_neg (by omega)] | rw [if_pos (by omega)])
  try rfl
theorem bdr_18 (j : Int) : z_bd 18 j = ((-9223372036854775808), 9223372036854775807) := by
  unfold z_bd
  repeat (first | rw [if_neg (by omega)] | rw [if_pos (by omega)])
  try rfl
theorem bd_191_16 : z_bd 191 16 = (0, 200) := by decide +kernel
theorem bd_191_17 : z_bd 191 17 = ((-2147483648), 2147483647) := by decide +kernel
theorem bd_191_18 : z_bd 191 18 = ((-2147483648), 2147483647) := by decide +kernel
theorem bdr_193 (j : Int) : z_bd 193 j = ((-2147483648), 2147483647) := by
  unfold z_bd
  repeat (first | rw [if_neg (by omega)] | rw [if_pos (by omega)])
  try rfl
theorem bdr_195 (j : Int) : z_bd 195 j = (0, 200) := by
  unfold z_bd
  repeat (first | rw [if_neg (by omega)] | rw [if_pos (by omega)])
  try rfl
theorem bdr_197 (j : Int) : z_bd 197 j = ((-2147483648), 2147483647) := by
  unfold z_bd
  repeat (first | rw [if_neg (by omega)] | rw [if_pos (by omega)])
  try rfl
theorem bdr_199 (j : Int) : z_bd 199 j = ((-2147483648), 2147483647) := by
  unfold z_bd
  repeat (first | rw [if_neg (by omega)] | rw [if_pos (by omega)])
  try rfl
theorem bdr_201 (j : Int) : z_bd 201 j = ((-2147483648), 2147483647) := by
  unfold z_bd
  repeat (first | rw [if_neg (by omega)] | rw [if_pos (by omega)])
  try rfl
theorem bdr_203 (j : Int) : z_bd 203 j = ((-2147483648), 2147483647) := by
  unfold z_bd
  repeat (first | rw [if_neg (by omega)] | rw [if_pos (by omega)])
  try rfl
theorem bdr_205 (j : Int) : z_bd 205 j = ((-2147483648), 2147483647) := by
  unfold z_bd
  repeat (first | rw [if_neg (by omega)] | rw [if_pos (by omega)])
  try rfl
theorem bdr_207 (j : Int) : z_bd 207 j = ((-2147483648), 2147483647) := by
  unfold z_bd
  repeat (first | rw [if_neg (by omega)] | rw [if_pos (by omega)])
  try rfl
theorem bdr_209 (j : Int) : z_bd 209 j = ((-2147483648), 2147483647) := by
  unfold z_bd
  repeat (first | rw [if_neg (by omega)] | rw [if_pos (by omega)])
  try rfl
theorem bdr_211 (j : Int) : z_bd 211 j = ((-2147483648), 2147483647) := by
  unfold z_bd
  repeat (first | rw [if_neg (by omega)] | rw [if_pos (by omega)])
  try rfl
theorem bdr_213 (j : Int) : z_bd 213 j = ((-2147483648), 2147483647) := by
  unfold z_bd
  repeat (first | rw [if_neg (by omega)] | rw [if_pos (by omega)])
  try rfl
theorem bdr_215 (j : Int) : z_bd 215 j = ((-2147483648), 2147483647) := by
  unfold z_bd
  repeat (first | rw [if_neg (by omega)] | rw [if_pos (by omega)])
  try rfl
theorem bdr_217 (j : Int) : z_bd 217 j = ((-2147483648), 2147483647) := by
  unfold z_bd
  repeat (first | rw [if_neg (by omega)] | rw [if_pos (by omega)])
  try rfl
theorem bdr_219 (j : Int) : z_bd 219 j = ((-2147483648), 2147483647) := by
  unfold z_bd
  repeat (first | rw [if_neg (by omega)] | rw [if_pos (by omega)])
  try rfl
theorem bdr_3 (j : Int) : z_bd 3 j = ((-2147483648), 2147483647) := by
  unfold z_bd
  repeat (first | rw [if_neg (by omega)] | rw [if_pos (by omega)])
  try rfl
theorem bd_6_6 : z_bd 6 6 = (0, 200) := by decide +kernel
theorem bdr_8 (j : Int) : z_bd 8 j = ((-2147483648), 2147483647) := by
  unfold z_bd
  repeat (first | rw [if_neg (by omega)] | rw [if_pos (by omega)])
  try rfl
abbrev R_X10_kindAt_191 (a : Int) : Prop := False
abbrev P_X10_kindAt_191 (r0 : z_M) : z_V → z_M → Prop := fun v s' => z_CI s' ∧ z_Fr R_X10_kindAt_191 r0 s' ∧ (∃ x, v = vI x ∧ -2147483648 ≤ x ∧ x ≤ 2147483647)
theorem sj_X10_kindAt_191_J88 {fu : Nat} (hfu : 8589934592 ≤ fu) (r0 s : z_M) (c : z_CI s) (f : z_Fr R_X10_kindAt_191 r0 s) (t0 : Int) (d0 : 3 ≤ t0 ∧ t0 ≤ 6) : z_T (fX10_kindAt_J88 fu s t0) (P_X10_kindAt_191 r0) := by
  refine T_of (fX10_kindAt_J88.eq_1 ..) ?_
  exact T_ret ⟨c, f, ⟨t0, rfl, by omega, by omega⟩⟩
theorem sj_X10_kindAt_191_J44 {fu : Nat} (hfu : 8589934592 ≤ fu) (r0 s : z_M) (c : z_CI s) (f : z_Fr R_X10_kindAt_191 r0 s) (a2 : Int) (b2 : -2147483648 ≤ a2 ∧ a2 ≤ 2147483647) : z_T (fX10_kindAt_J44 fu s a2) (P_X10_kindAt_191 r0) := by
  refine T_of (fX10_kindAt_J44.eq_1 ..) ?_
  refine T_ite (fun h1 => ?_) (fun h1 => ?_)
  · refine T_ite (fun h2 => ?_) (fun h2 => ?_)
    · refine T_ite (fun h3 => ?_) (fun h3 => ?_)
      · refine T_ite (fun h4 => ?_) (fun h4 => ?_)
        · refine T_ite (fun h5 => ?_) (fun h5 => ?_)
          · exact sj_X10_kindAt_191_J88 hfu r0 s c f 3 (by omega)
          · exact sj_X10_kindAt_191_J88 hfu r0 s c f 6 (by omega)
        · exact T_ret ⟨c, f, ⟨5, rfl, by omega, by omega⟩⟩
      · exact T_ret ⟨c, f, ⟨4, rfl, by omega, by omega⟩⟩
    · exact T_ret ⟨c, f, ⟨2, rfl, by omega, by omega⟩⟩
  · exact T_ret ⟨c, f, ⟨1, rfl, by omega, by omega⟩⟩
theorem sf_X10_kindAt_191 {fu : Nat} (hfu : 8589934592 ≤ fu) (r0 : z_M) (c0 : z_CI r0) (a1 : Int) (b1 : -2147483648 ≤ a1 ∧ a1 ≤ 2147483647) : z_T (fX10_kindAt fu r0 191 a1) (P_X10_kindAt_191 r0) := by
  refine T_of (fX10_kindAt.eq_1 ..) ?_
  refine T_if1 (by decide +kernel) ?_
  refine T_let 6 (by decide +kernel) ?_
  refine T_if1 (by decide +kernel) ?_
  refine T_let 7 (by decide +kernel) ?_
  refine T_if1 (by decide +kernel) ?_
  refine T_get (by decide +kernel) (c := 8) (by decide +kernel) bdr_8 (by decide) c0 (fun x1 e2 b3 w4 => ?_)
  have l5 : z_ln 7 = 200 := by decide +kernel
  refine T_if1 (by decide +kernel) ?_
  refine T_let 6 (by decide +kernel) ?_
  refine T_if1 (by decide +kernel) ?_
  refine T_let 11 (by decide +kernel) ?_
  refine T_if1 (by decide +kernel) ?_
  refine T_get (by decide +kernel) (c := 12) (by decide +kernel) bdr_12 (by decide) c0 (fun x6 e7 b8 w9 => ?_)
  have l10 : z_ln 11 = 200 := by decide +kernel
  refine T_ite (fun h11 => ?_) (fun h11 => ?_)
  · refine T_ite (fun h12 => ?_) (fun h12 => ?_)
    · exact sj_X10_kindAt_191_J44 hfu r0 r0 c0 z_Fr.rf x1 (by omega)
    · refine T_ite (fun h13 => ?_) (fun h13 => ?_)
      · exact sj_X10_kindAt_191_J44 hfu r0 r0 c0 z_Fr.rf x1 (by omega)
      · exact T_ret ⟨c0, z_Fr.rf, ⟨0, rfl, by omega, by omega⟩⟩
  · exact T_ret ⟨c0, z_Fr.rf, ⟨7, rfl, by omega, by omega⟩⟩
abbrev R_X10_startsUnit_191 (a : Int) : Prop := False
abbrev P_X10_startsUnit_191 (r0 : z_M) : z_V → z_M → Prop := fun v s' => z_CI s' ∧ z_Fr R_X10_startsUnit_191 r0 s' ∧ (∃ x, v = vI x ∧ 0 ≤ x ∧ x ≤ 1)
theorem sj_X10_startsUnit_191_J63 {fu : Nat} (hfu : 8589934592 ≤ fu) (r0 s : z_M) (c : z_CI s) (f : z_Fr R_X10_startsUnit_191 r0 s) (t0 : Int) (d0 : 0 ≤ t0 ∧ t0 ≤ 1) : z_T (fX10_startsUnit_J63 fu s t0) (P_X10_startsUnit_191 r0) := by
  refine T_of (fX10_startsUnit_J63.eq_1 ..) ?_
  refine T_if1 (by unfold z_bl; omega) ?_
  exact T_ret ⟨c, f, ⟨t0, rfl, by omega, by omega⟩⟩
theorem sj_X10_startsUnit_191_J58 {fu : Nat} (hfu : 8589934592 ≤ fu) (r0 s : z_M) (c : z_CI s) (f : z_Fr R_X10_startsUnit_191 r0 s) : z_T (fX10_startsUnit_J58 fu s) (P_X10_startsUnit_191 r0) := by
  refine T_of (fX10_startsUnit_J58.eq_1 ..) ?_
  exact sj_X10_startsUnit_191_J63 hfu r0 s c f 1 (by omega)
theorem sj_X10_startsUnit_191_J43 {fu : Nat} (hfu : 8589934592 ≤ fu) (r0 s : z_M) (c : z_CI s) (f : z_Fr R_X10_startsUnit_191 r0 s) (a1 : Int) (a2 : Int) (b1 : -2147483648 ≤ a1 ∧ a1 ≤ 2147483647) (b2 : -2147483648 ≤ a2 ∧ a2 ≤ 2147483647) : z_T (fX10_startsUnit_J43 fu s 191 a1 a2) (P_X10_startsUnit_191 r0) := by
  refine T_of (fX10_startsUnit_J43.eq_1 ..) ?_
  refine T_ite (fun h1 => ?_) (fun h1 => ?_)
  · exact sj_X10_startsUnit_191_J58 hfu r0 s c f
  · refine T_leq (fun x2 e3 => ?_)
    have w4 := z_wb e3
    refine T_if1 (by decide +kernel) ?_
    refine T_useI (sf_X10_kindAt_191 hfu s c x2 (by omega)) (fun v10 s5 hq => ?_)
    obtain ⟨c6, f7, ⟨x9, rfl, b11, b12⟩⟩ := hq
    refine T_vI ?_
    have f8 := z_Fr.tr (R := R_X10_startsUnit_191) f f7 (fun a h => absurd h not_false)
    refine T_ite (fun h13 => ?_) (fun h13 => ?_)
    · exact sj_X10_startsUnit_191_J63 hfu r0 s5 c6 f8 0 (by omega)
    · exact sj_X10_startsUnit_191_J58 hfu r0 s5 c6 f8
theorem sj_X10_startsUnit_191_J32 {fu : Nat} (hfu : 8589934592 ≤ fu) (r0 s : z_M) (c : z_CI s) (f : z_Fr R_X10_startsUnit_191 r0 s) (t0 : Int) (d0 : 0 ≤ t0 ∧ t0 ≤ 1) : z_T (fX10_startsUnit_J32 fu s t0) (P_X10_startsUnit_191 r0) := by
  refine T_of (fX10_startsUnit_J32.eq_1 ..) ?_
  refine T_if1 (by unfold z_bl; omega) ?_
  exact T_ret ⟨c, f, ⟨t0, rfl, by omega, by omega⟩⟩
theorem sf_X10_startsUnit_191 {fu : Nat} (hfu : 8589934592 ≤ fu) (r0 : z_M) (c0 : z_CI r0) (a1 : Int) (b1 : -2147483648 ≤ a1 ∧ a1 ≤ 2147483647) : z_T (fX10_startsUnit fu r0 191 a1) (P_X10_startsUnit_191 r0) := by
  refine T_of (fX10_startsUnit.eq_1 ..) ?_
  refine T_if1 (by decide +kernel) ?_
  refine T_useI (sf_X10_kindAt_191 hfu r0 c0 a1 (by omega)) (fun v6 s1 hq => ?_)
  obtain ⟨c2, f3, ⟨x5, rfl, b7, b8⟩⟩ := hq
  refine T_vI ?_
  have f4 := z_Fr.tr (R := R_X10_startsUnit_191) z_Fr.rf f3 (fun a h => absurd h not_false)
  refine T_ite (fun h9 => ?_) (fun h9 => ?_)
  · refine T_ite (fun h10 => ?_) (fun h10 => ?_)
    · exact sj_X10_startsUnit_191_J43 hfu r0 s1 c2 f4 a1 x5 (by omega) (by omega)
    · refine T_ite (fun h11 => ?_) (fun h11 => ?_)
      · exact sj_X10_startsUnit_191_J58 hfu r0 s1 c2 f4
      · exact sj_X10_startsUnit_191_J43 hfu r0 s1 c2 f4 a1 x5 (by omega) (by omega)
  · refine T_if1 (by decide +kernel) ?_
    refine T_let 6 (by decide +kernel) ?_
    refine T_if1 (by decide +kernel) ?_
    refine T_let 13 (by decide +kernel) ?_
    refine T_if1 (by decide +kernel) ?_
    refine T_get (by decide +kernel) (c := 14) (by decide +kernel) bdr_14 (by decide) c2 (fun x12 e13 b14 w15 => ?_)
    have l16 : z_ln 13 = 200 := by decide +kernel
    refine T_ite (fun h17 => ?_) (fun h17 => ?_)
    · exact sj_X10_startsUnit_191_J32 hfu r0 s1 c2 f4 0 (by omega)
    · exact sj_X10_startsUnit_191_J32 hfu r0 s1 c2 f4 1 (by omega)
abbrev R_X10_split_191 (a : Int) : Prop := (191 ≤ a ∧ a ≤ 191) ∨ (193 ≤ a ∧ a ≤ 193) ∨ (195 ≤ a ∧ a ≤ 195) ∨ (197 ≤ a ∧ a ≤ 197) ∨ (215 ≤ a ∧ a ≤ 215)
abbrev P_X10_split_191 (r0 : z_M) : z_V → z_M → Prop := fun v s' => z_CI s' ∧ z_Fr R_X10_split_191 r0 s' ∧ (v = vN)
theorem sj_X10_split_191_J76 {fu : Nat} (hfu : 8589934592 ≤ fu) (r0 s : z_M) (c : z_CI s) (f : z_Fr R_X10_split_191 r0 s) (a1 : Int) (b1 : 0 ≤ a1 ∧ a1 ≤ 2147483646) (p0 : 0 ≤ s 191 16) (p1 : s 191 16 ≤ a1 + 1) {r : z_M → Int → z_O} {k : z_M → z_O} (hr : ∀ (s' : z_M) (v1 : Int), z_CI s' → z_Fr R_X10_split_191 r0 s' → (0 ≤ v1 ∧ v1 ≤ 2147483647) → (0 ≤ s' 191 16) → (s' 191 16 ≤ v1) → (a1 < v1) → z_T (r s' v1) (P_X10_split_191 r0)) (hk : ∀ (s' : z_M), z_CI s' → z_Fr R_X10_split_191 r0 s' → z_T (k s') (P_X10_split_191 r0)) : z_T (fX10_split_J76 fu s 191 a1 r k) (P_X10_split_191 r0) := by
  refine T_of (fX10_split_J76.eq_1 ..) ?_
  have u1 := CI_b c (k := 6) (j := 6) bd_6_6
  have u2 := CI_b c (k := 191) (j := 16) bd_191_16
  refine T_if1 (by decide +kernel) ?_
  refine T_let 196 (by decide +kernel) ?_
  refine T_if1 (by decide +kernel) ?_
  refine T_leq (fun x3 e4 => ?_)
  have u5 := CI_b c (k := 191) (j := 16) bd_191_16
  refine T_leq (fun x6 e7 => ?_)
  have w8 := z_wb e7
  refine T_if1 (by decide +kernel) ?_
  refine T_add (by decide +kernel) (c := 197) (by decide +kernel) bdr_197 c (fun s9 e12 c10 g13 => ?_)
  have f11 := z_Fr.up (R := R_X10_split_191) f g13 (by decide)
  have t14 : s9 6 6 = s 6 6 := g13 6 6 (by decide)
  have t15 : s9 191 16 = s 191 16 := g13 191 16 (by decide)
  refine T_if1 (by decide +kernel) ?_
  refine T_let 214 (by decide +kernel) ?_
  refine T_if1 (by decide +kernel) ?_
  refine T_leq (fun x16 e17 => ?_)
  have u18 := CI_b c10 (k := 191) (j := 16) bd_191_16
  refine T_leq (fun x19 e20 => ?_)
  have w21 := z_wb e20
  refine T_if1 (by decide +kernel) ?_
  refine T_put (by decide +kernel) (c := 215) (by decide +kernel) bdr_215 (by omega) c10 (fun s22 e25 c23 g26 => ?_)
  have f24 := z_Fr.up (R := R_X10_split_191) f11 g26 (by decide)
  have t27 : s22 6 6 = s9 6 6 := g26 6 6 (by decide)
  have t28 : s22 191 16 = s9 191 16 := g26 191 16 (by decide)
  refine T_leq (fun x29 e30 => ?_)
  have w31 := z_wb e30
  exact hr s22 x29 c23 f24 (by omega) (by omega) (by omega) (by omega)
theorem sl_X10_split_191_L7 {fu : Nat} (hfu : 8589934592 ≤ fu) (r0 : z_M) {k : z_M → z_O} (hk : ∀ (s' : z_M), z_CI s' → z_Fr R_X10_split_191 r0 s' → z_T (k s') (P_X10_split_191 r0)) : ∀ (F : Nat) (s : z_M) (a1 : Int), z_CI s → z_Fr R_X10_split_191 r0 s → (0 ≤ a1 ∧ a1 ≤ 2147483647) → (0 ≤ s 191 16) → (s 191 16 ≤ a1) → (2147483647 - a1 < (F : Int)) → z_T (fX10_split_L7 fu 191 F s a1 k) (P_X10_split_191 r0) := by
  intro F
  induction F with
  | zero => intro s a1 c f b1 i0 i1 hm; exfalso; omega
  | succ F ih =>
    intro s a1 c f b1 i0 i1 hm
    refine T_of (fX10_split_L7.eq_2 ..) ?_
    have u1 := CI_b c (k := 6) (j := 6) bd_6_6
    have u2 := CI_b c (k := 191) (j := 16) bd_191_16
    refine T_if1 (by decide +kernel) ?_
    refine T_let 6 (by decide +kernel) ?_
    refine T_if1 (by decide +kernel) ?_
    refine T_leq (fun x3 e4 => ?_)
    have u5 := CI_b c (k := 6) (j := 6) bd_6_6
    refine T_ite (fun h6 => ?_) (fun h6 => ?_)
    · exact hk s c f
    · refine T_if1 (by decide +kernel) ?_
      refine T_useI (sf_X10_startsUnit_191 hfu s c a1 (by omega)) (fun v12 s7 hq => ?_)
      obtain ⟨c8, f9, ⟨x11, rfl, b13, b14⟩⟩ := hq
      refine T_vI ?_
      have f10 := z_Fr.tr (R := R_X10_split_191) f f9 (fun a h => absurd h not_false)
      have t15 : s7 6 6 = s 6 6 := f9 6 6 (by decide)
      have t16 : s7 191 16 = s 191 16 := f9 191 16 (by decide)
      refine T_ite (fun h17 => ?_) (fun h17 => ?_)
      · exact sj_X10_split_191_J76 hfu r0 s7 c8 f10 a1 (by omega) (by omega) (by omega) (fun s' v1 c' f' w1 z0 z1 pg => ih s' v1 c' f' w1 z0 z1 (by omega)) hk
      · refine T_if1 (by decide +kernel) ?_
        refine T_let 192 (by decide +kernel) ?_
        refine T_if1 (by decide +kernel) ?_
        refine T_leq (fun x18 e19 => ?_)
        have u20 := CI_b c8 (k := 191) (j := 16) bd_191_16
        refine T_if1 (by decide +kernel) ?_
        refine T_useI (sf_X10_kindAt_191 hfu s7 c8 a1 (by omega)) (fun v26 s21 hq => ?_)
        obtain ⟨c22, f23, ⟨x25, rfl, b27, b28⟩⟩ := hq
        refine T_vI ?_
        have f24 := z_Fr.tr (R := R_X10_split_191) f10 f23 (fun a h => absurd h not_false)
        have t29 : s21 6 6 = s7 6 6 := f23 6 6 (by decide)
        have t30 : s21 191 16 = s7 191 16 := f23 191 16 (by decide)
        refine T_if1 (by decide +kernel) ?_
        refine T_put (by decide +kernel) (c := 193) (by decide +kernel) bdr_193 (by omega) c22 (fun s31 e34 c32 g35 => ?_)
        have f33 := z_Fr.up (R := R_X10_split_191) f24 g35 (by decide)
        have t36 : s31 6 6 = s21 6 6 := g35 6 6 (by decide)
        have t37 : s31 191 16 = s21 191 16 := g35 191 16 (by decide)
        refine T_if1 (by decide +kernel) ?_
        refine T_let 194 (by decide +kernel) ?_
        refine T_if1 (by decide +kernel) ?_
        refine T_leq (fun x38 e39 => ?_)
        have u40 := CI_b c32 (k := 191) (j := 16) bd_191_16
        refine T_if1 (by decide +kernel) ?_
        refine T_put (by decide +kernel) (c := 195) (by decide +kernel) bdr_195 (by omega) c32 (fun s41 e44 c42 g45 => ?_)
        have f43 := z_Fr.up (R := R_X10_split_191) f33 g45 (by decide)
        have t46 : s41 6 6 = s31 6 6 := g45 6 6 (by decide)
        have t47 : s41 191 16 = s31 191 16 := g45 191 16 (by decide)
        refine T_if1 (by decide +kernel) ?_
        refine T_let 196 (by decide +kernel) ?_
        refine T_if1 (by decide +kernel) ?_
        refine T_leq (fun x48 e49 => ?_)
        have u50 := CI_b c42 (k := 191) (j := 16) bd_191_16
        refine T_if1 (by decide +kernel) ?_
        refine T_put (by decide +kernel) (c := 197) (by decide +kernel) bdr_197 (by omega) c42 (fun s51 e54 c52 g55 => ?_)
        have f53 := z_Fr.up (R := R_X10_split_191) f43 g55 (by decide)
        have t56 : s51 6 6 = s41 6 6 := g55 6 6 (by decide)
        have t57 : s51 191 16 = s41 191 16 := g55 191 16 (by decide)
        refine T_if1 (by decide +kernel) ?_
        refine T_leq (fun x58 e59 => ?_)
        have u60 := CI_b c52 (k := 191) (j := 16) bd_191_16
        refine T_leq (fun x61 e62 => ?_)
        have w63 := z_wb e62
        refine T_if1 (by decide +kernel) ?_
        refine T_upg c52 bd_191_16 (by omega) (fun s64 c65 g67 g68 e69 => ?_)
        have f66 := z_Fr.up (R := R_X10_split_191) f53 g67 (by decide)
        have t70 : s64 6 6 = s51 6 6 := g67 6 6 (by decide)
        exact sj_X10_split_191_J76 hfu r0 s64 c65 f66 a1 (by omega) (by omega) (by omega) (fun s' v1 c' f' w1 z0 z1 pg => ih s' v1 c' f' w1 z0 z1 (by omega)) hk
theorem sf_X10_split_191 {fu : Nat} (hfu : 8589934592 ≤ fu) (r0 : z_M) (c0 : z_CI r0) : z_T (fX10_split fu r0 191) (P_X10_split_191 r0) := by
  refine T_of (fX10_split.eq_1 ..) ?_
  refine T_if1 (by decide +kernel) ?_
  refine T_upg c0 bd_191_16 (by omega) (fun s1 c2 g4 g5 e6 => ?_)
  have f3 := z_Fr.up (R := R_X10_split_191) z_Fr.rf g4 (by decide)
  have t7 : s1 6 6 = r0 6 6 := g4 6 6 (by decide)
  refine sl_X10_split_191_L7 hfu r0 (fun s8 c9 f10 => ?_) fu s1 0 c2 f3 (by omega) (by omega) (by omega) (by omega)
  have u11 := CI_b c9 (k := 6) (j := 6) bd_6_6
  have u12 := CI_b c9 (k := 191) (j := 16) bd_191_16
  exact T_ret ⟨c9, f10, rfl⟩
abbrev R_X10_isAcross_191 (a : Int) : Prop := False
abbrev P_X10_isAcross_191 (r0 : z_M) : z_V → z_M → Prop := fun v s' => z_CI s' ∧ z_Fr R_X10_isAcross_191 r0 s' ∧ (∃ x, v = vI x ∧ 0 ≤ x ∧ x ≤ 1)
theorem sj_X10_isAcross_191_J48 {fu : Nat} (hfu : 8589934592 ≤ fu) (r0 s : z_M) (c : z_CI s) (f : z_Fr R_X10_isAcross_191 r0 s) (t0 : Int) (d0 : 0 ≤ t0 ∧ t0 ≤ 1) : z_T (fX10_isAcross_J48 fu s t0) (P_X10_isAcross_191 r0) := by
  refine T_of (fX10_isAcross_J48.eq_1 ..) ?_
  refine T_if1 (by unfold z_bl; omega) ?_
  exact T_ret ⟨c, f, ⟨t0, rfl, by omega, by omega⟩⟩
theorem sj_X10_isAcross_191_J47 {fu : Nat} (hfu : 8589934592 ≤ fu) (r0 s : z_M) (c : z_CI s) (f : z_Fr R_X10_isAcross_191 r0 s) : z_T (fX10_isAcross_J47 fu s) (P_X10_isAcross_191 r0) := by
  refine T_of (fX10_isAcross_J47.eq_1 ..) ?_
  exact sj_X10_isAcross_191_J48 hfu r0 s c f 0 (by omega)
theorem sf_X10_isAcross_191 {fu : Nat} (hfu : 8589934592 ≤ fu) (r0 : z_M) (c0 : z_CI r0) (a1 : Int) (b1 : -2147483648 ≤ a1 ∧ a1 ≤ 2147483647) : z_T (fX10_isAcross fu r0 191 a1) (P_X10_isAcross_191 r0) := by
  refine T_of (fX10_isAcross.eq_1 ..) ?_
  refine T_if1 (by decide +kernel) ?_
  refine T_let 192 (by decide +kernel) ?_
  refine T_if1 (by decide +kernel) ?_
  refine T_get (by decide +kernel) (c := 193) (by decide +kernel) bdr_193 (by decide) c0 (fun x1 e2 b3 w4 => ?_)
  have l5 : z_ln 192 = 200 := by decide +kernel
  refine T_ite (fun h6 => ?_) (fun h6 => ?_)
  · exact sj_X10_isAcross_191_J47 hfu r0 r0 c0 z_Fr.rf
  · refine T_if1 (by decide +kernel) ?_
    refine T_let 2 (by decide +kernel) ?_
    refine T_if1 (by decide +kernel) ?_
    refine T_get (by decide +kernel) (c := 3) (by decide +kernel) bdr_3 (by decide) c0 (fun x7 e8 b9 w10 => ?_)
    have l11 : z_ln 2 = 9 := by decide +kernel
    refine T_ite (fun h12 => ?_) (fun h12 => ?_)
    · exact sj_X10_isAcross_191_J47 hfu r0 r0 c0 z_Fr.rf
    · refine T_if1 (by decide +kernel) ?_
      refine T_let 196 (by decide +kernel) ?_
      refine T_if1 (by decide +kernel) ?_
      refine T_get (by decide +kernel) (c := 197) (by decide +kernel) bdr_197 (by decide) c0 (fun x13 e14 b15 w16 => ?_)
      have l17 : z_ln 196 = 200 := by decide +kernel
      refine T_if1 (by decide +kernel) ?_
      refine T_let 2 (by decide +kernel) ?_
      refine T_if1 (by decide +kernel) ?_
      refine T_get (by decide +kernel) (c := 3) (by decide +kernel) bdr_3 (by decide) c0 (fun x18 e19 b20 w21 => ?_)
      have l22 : z_ln 2 = 9 := by decide +kernel
      refine T_ite (fun h23 => ?_) (fun h23 => ?_)
      · exact sj_X10_isAcross_191_J47 hfu r0 r0 c0 z_Fr.rf
      · exact sj_X10_isAcross_191_J48 hfu r0 r0 c0 z_Fr.rf 1 (by omega)
abbrev R_X10_isTurned_191 (a : Int) : Prop := False
abbrev P_X10_isTurned_191 (r0 : z_M) : z_V → z_M → Prop := fun v s' => z_CI s' ∧ z_Fr R_X10_isTurned_191 r0 s' ∧ (∃ x, v = vI x ∧ 0 ≤ x ∧ x ≤ 1)
theorem sj_X10_isTurned_191_J51 {fu : Nat} (hfu : 8589934592 ≤ fu) (r0 s : z_M) (c : z_CI s) (f : z_Fr R_X10_isTurned_191 r0 s) (t0 : Int) (d0 : 0 ≤ t0 ∧ t0 ≤ 1) : z_T (fX10_isTurned_J51 fu s t0) (P_X10_isTurned_191 r0) := by
  refine T_of (fX10_isTurned_J51.eq_1 ..) ?_
  refine T_if1 (by unfold z_bl; omega) ?_
  exact T_ret ⟨c, f, ⟨t0, rfl, by omega, by omega⟩⟩
theorem sj_X10_isTurned_191_J50 {fu : Nat} (hfu : 8589934592 ≤ fu) (r0 s : z_M) (c : z_CI s) (f : z_Fr R_X10_isTurned_191 r0 s) : z_T (fX10_isTurned_J50 fu s) (P_X10_isTurned_191 r0) := by
  refine T_of (fX10_isTurned_J50.eq_1 ..) ?_
  exact sj_X10_isTurned_191_J51 hfu r0 s c f 0 (by omega)
theorem sj_X10_isTurned_191_J29 {fu : Nat} (hfu : 8589934592 ≤ fu) (r0 s : z_M) (c : z_CI s) (f : z_Fr R_X10_isTurned_191 r0 s) (t0 : Int) (d0 : 0 ≤ t0 ∧ t0 ≤ 1) : z_T (fX10_isTurned_J29 fu s 191 t0) (P_X10_isTurned_191 r0) := by
  refine T_of (fX10_isTurned_J29.eq_1 ..) ?_
  refine T_ite (fun h1 => ?_) (fun h1 => ?_)
  · exact sj_X10_isTurned_191_J50 hfu r0 s c f
  · refine T_if1 (by decide +kernel) ?_
    refine T_let 2 (by decide +kernel) ?_
    refine T_if1 (by decide +kernel) ?_
    refine T_get (by decide +kernel) (c := 3) (by decide +kernel) bdr_3 (by decide) c (fun x2 e3 b4 w5 => ?_)
    have l6 : z_ln 2 = 9 := by decide +kernel
    refine T_ite (fun h7 => ?_) (fun h7 => ?_)
    · exact sj_X10_isTurned_191_J50 hfu r0 s c f
    · exact sj_X10_isTurned_191_J51 hfu r0 s c f 1 (by omega)
theorem sj_X10_isTurned_191_J24 {fu : Nat} (hfu : 8589934592 ≤ fu) (r0 s : z_M) (c : z_CI s) (f : z_Fr R_X10_isTurned_191 r0 s) : z_T (fX10_isTurned_J24 fu s 191) (P_X10_isTurned_191 r0) := by
  refine T_of (fX10_isTurned_J24.eq_1 ..) ?_
  exact sj_X10_isTurned_191_J29 hfu r0 s c f 1 (by omega)
theorem sj_X10_isTurned_191_J14 {fu : Nat} (hfu : 8589934592 ≤ fu) (r0 s : z_M) (c : z_CI s) (f : z_Fr R_X10_isTurned_191 r0 s) (a1 : Int) (b1 : -2147483648 ≤ a1 ∧ a1 ≤ 2147483647) : z_T (fX10_isTurned_J14 fu s 191 a1) (P_X10_isTurned_191 r0) := by
  refine T_of (fX10_isTurned_J14.eq_1 ..) ?_
  refine T_ite (fun h1 => ?_) (fun h1 => ?_)
  · exact sj_X10_isTurned_191_J24 hfu r0 s c f
  · refine T_ite (fun h2 => ?_) (fun h2 => ?_)
    · exact sj_X10_isTurned_191_J29 hfu r0 s c f 0 (by omega)
    · exact sj_X10_isTurned_191_J24 hfu r0 s c f
theorem sf_X10_isTurned_191 {fu : Nat} (hfu : 8589934592 ≤ fu) (r0 : z_M) (c0 : z_CI r0) (a1 : Int) (a2 : Int) (b1 : -2147483648 ≤ a1 ∧ a1 ≤ 2147483647) (b2 : -2147483648 ≤ a2 ∧ a2 ≤ 2147483647) : z_T (fX10_isTurned fu r0 191 a1 a2) (P_X10_isTurned_191 r0) := by
  refine T_of (fX10_isTurned.eq_1 ..) ?_
  refine T_ite (fun h1 => ?_) (fun h1 => ?_)
  · exact sj_X10_isTurned_191_J24 hfu r0 r0 c0 z_Fr.rf
  · refine T_ite (fun h2 => ?_) (fun h2 => ?_)
    · exact sj_X10_isTurned_191_J14 hfu r0 r0 c0 z_Fr.rf a1 (by omega)
    · refine T_ite (fun h3 => ?_) (fun h3 => ?_)
      · exact sj_X10_isTurned_191_J24 hfu r0 r0 c0 z_Fr.rf
      · exact sj_X10_isTurned_191_J14 hfu r0 r0 c0 z_Fr.rf a1 (by omega)
abbrev R_X10_longOfSign (a : Int) : Prop := False
abbrev P_X10_longOfSign (r0 : z_M) : z_V → z_M → Prop := fun v s' => z_CI s' ∧ z_Fr R_X10_longOfSign r0 s' ∧ (∃ x, v = vI x ∧ -2147483648 ≤ x ∧ x ≤ 2147483647)
theorem sj_X10_longOfSign_J10 {fu : Nat} (hfu : 8589934592 ≤ fu) (r0 s : z_M) (c : z_CI s) (f : z_Fr R_X10_longOfSign r0 s) : z_T (fX10_longOfSign_J10 fu s) (P_X10_longOfSign r0) := by
  refine T_of (fX10_longOfSign_J10.eq_1 ..) ?_
  exact T_ret ⟨c, f, ⟨12, rfl, by omega, by omega⟩⟩
theorem sj_X10_longOfSign_J37 {fu : Nat} (hfu : 8589934592 ≤ fu) (r0 s : z_M) (c : z_CI s) (f : z_Fr R_X10_longOfSign r0 s) : z_T (fX10_longOfSign_J37 fu s) (P_X10_longOfSign r0) := by
  refine T_of (fX10_longOfSign_J37.eq_1 ..) ?_
  exact T_ret ⟨c, f, ⟨4, rfl, by omega, by omega⟩⟩
theorem sj_X10_longOfSign_J58 {fu : Nat} (hfu : 8589934592 ≤ fu) (r0 s : z_M) (c : z_CI s) (f : z_Fr R_X10_longOfSign r0 s) (t0 : Int) (d0 : 6 ≤ t0 ∧ t0 ≤ 9) : z_T (fX10_longOfSign_J58 fu s t0) (P_X10_longOfSign r0) := by
  refine T_of (fX10_longOfSign_J58.eq_1 ..) ?_
  exact T_ret ⟨c, f, ⟨t0, rfl, by omega, by omega⟩⟩
theorem sj_X10_longOfSign_J51 {fu : Nat} (hfu : 8589934592 ≤ fu) (r0 s : z_M) (c : z_CI s) (f : z_Fr R_X10_longOfSign r0 s) : z_T (fX10_longOfSign_J51 fu s) (P_X10_longOfSign r0) := by
  refine T_of (fX10_longOfSign_J51.eq_1 ..) ?_
  exact sj_X10_longOfSign_J58 hfu r0 s c f 9 (by omega)
theorem sf_X10_longOfSign {fu : Nat} (hfu : 8589934592 ≤ fu) (r0 : z_M) (c0 : z_CI r0) (a0 : Int) (a1 : Int) (b0 : -2147483648 ≤ a0 ∧ a0 ≤ 2147483647) (b1 : -2147483648 ≤ a1 ∧ a1 ≤ 2147483647) : z_T (fX10_longOfSign fu r0 a0 a1) (P_X10_longOfSign r0) := by
  refine T_of (fX10_longOfSign.eq_1 ..) ?_
  refine T_ite (fun h1 => ?_) (fun h1 => ?_)
  · exact sj_X10_longOfSign_J10 hfu r0 r0 c0 z_Fr.rf
  · refine T_ite (fun h2 => ?_) (fun h2 => ?_)
    · refine T_ite (fun h3 => ?_) (fun h3 => ?_)
      · exact sj_X10_longOfSign_J37 hfu r0 r0 c0 z_Fr.rf
      · refine T_ite (fun h4 => ?_) (fun h4 => ?_)
        · exact sj_X10_longOfSign_J37 hfu r0 r0 c0 z_Fr.rf
        · refine T_ite (fun h5 => ?_) (fun h5 => ?_)
          · exact sj_X10_longOfSign_J37 hfu r0 r0 c0 z_Fr.rf
          · refine T_ite (fun h6 => ?_) (fun h6 => ?_)
            · refine T_ite (fun h7 => ?_) (fun h7 => ?_)
              · exact sj_X10_longOfSign_J51 hfu r0 r0 c0 z_Fr.rf
              · refine T_ite (fun h8 => ?_) (fun h8 => ?_)
                · exact sj_X10_longOfSign_J58 hfu r0 r0 c0 z_Fr.rf 6 (by omega)
                · exact sj_X10_longOfSign_J51 hfu r0 r0 c0 z_Fr.rf
            · exact sj_X10_longOfSign_J37 hfu r0 r0 c0 z_Fr.rf
    · exact sj_X10_longOfSign_J10 hfu r0 r0 c0 z_Fr.rf
abbrev R_X9_letterCount_6 (a : Int) : Prop := False
abbrev P_X9_letterCount_6 (r0 : z_M) : z_V → z_M → Prop := fun v s' => z_CI s' ∧ z_Fr R_X9_letterCount_6 r0 s' ∧ (∃ x, v = vI x ∧ -2147483648 ≤ x ∧ x ≤ 2147483647)
theorem sf_X9_letterCount_6 {fu : Nat} (hfu : 8589934592 ≤ fu) (r0 : z_M) (c0 : z_CI r0) (a1 : Int) (a2 : Int) (b1 : -2147483648 ≤ a1 ∧ a1 ≤ 2147483647) (b2 : -2147483648 ≤ a2 ∧ a2 ≤ 2147483647) : z_T (fX9_letterCount fu r0 6 a1 a2) (P_X9_letterCount_6 r0) := by
  refine T_of (fX9_letterCount.eq_1 ..) ?_
  refine T_if1 (by decide +kernel) ?_
  refine T_bR ?_
  refine T_of (fX9_readings.eq_1 ..) ?_
  refine T_ite (fun h1 => ?_) (fun h1 => ?_)
  · refine T_if1 (by decide +kernel) ?_
    refine T_let 17 (by decide +kernel) ?_
    refine T_of (fX9_readings_J15.eq_1 ..) ?_
    refine T_rR ?_
    refine T_if1 (by decide +kernel) ?_
    refine T_lget (by decide +kernel) (c := 18) (by decide +kernel) bdr_18 (by decide) c0 (fun x2 e3 b4 => ?_)
    refine T_leq (fun x6 e7 => ?_)
    have w8 : -9223372036854775808 ≤ x6 ∧ x6 ≤ 9223372036854775807 := by rw [← e7]; exact z_i64b _
    refine T_leq (fun x9 e10 => ?_)
    have w11 := z_wb e10
    exact T_ret ⟨c0, z_Fr.rf, ⟨x9, rfl, by omega, by omega⟩⟩
  · refine T_if1 (by decide +kernel) ?_
    refine T_let 15 (by decide +kernel) ?_
    refine T_of (fX9_readings_J15.eq_1 ..) ?_
    refine T_rR ?_
    refine T_if1 (by decide +kernel) ?_
    refine T_lget (by decide +kernel) (c := 16) (by decide +kernel) bdr_16 (by decide) c0 (fun x12 e13 b14 => ?_)
    refine T_leq (fun x16 e17 => ?_)
    have w18 : -9223372036854775808 ≤ x16 ∧ x16 ≤ 9223372036854775807 := by rw [← e17]; exact z_i64b _
    refine T_leq (fun x19 e20 => ?_)
    have w21 := z_wb e20
    exact T_ret ⟨c0, z_Fr.rf, ⟨x19, rfl, by omega, by omega⟩⟩
abbrev R_X10_measureUnit_191 (a : Int) : Prop := (199 ≤ a ∧ a ≤ 199) ∨ (201 ≤ a ∧ a ≤ 201) ∨ (203 ≤ a ∧ a ≤ 203) ∨ (205 ≤ a ∧ a ≤ 205) ∨ (217 ≤ a ∧ a ≤ 217) ∨ (219 ≤ a ∧ a ≤ 219)
abbrev P_X10_measureUnit_191 (r0 : z_M) : z_V → z_M → Prop := fun v s' => z_CI s' ∧ z_Fr R_X10_measureUnit_191 r0 s' ∧ (v = vN)
theorem sj_X10_measureUnit_191_J96 {fu : Nat} (hfu : 8589934592 ≤ fu) (r0 s : z_M) (c : z_CI s) (f : z_Fr R_X10_measureUnit_191 r0 s) (a1 : Int) (a2 : Int) (a3 : Int) (a4 : Int) (a5 : Int) (a6 : Int) (a7 : Int) (t0 : Int) (b1 : -2147483648 ≤ a1 ∧ a1 ≤ 2147483647) (b2 : -2147483648 ≤ a2 ∧ a2 ≤ 2147483647) (b3 : -2147483648 ≤ a3 ∧ a3 ≤ 2147483647) (b4 : -2147483648 ≤ a4 ∧ a4 ≤ 2147483647) (b5 : -2147483648 ≤ a5 ∧ a5 ≤ 2147483647) (b6 : -2147483648 ≤ a6 ∧ a6 ≤ 2147483647) (b7 : -2147483648 ≤ a7 ∧ a7 ≤ 2147483646) (d0 : -2147483648 ≤ t0 ∧ t0 ≤ 2147483647) {r : z_M → Int → Int → z_O} {k : z_M → Int → z_O} (hr : ∀ (s' : z_M) (v6 : Int) (v7 : Int), z_CI s' → z_Fr R_X10_measureUnit_191 r0 s' → (-2147483648 ≤ v6 ∧ v6 ≤ 2147483647) → (-2147483648 ≤ v7 ∧ v7 ≤ 2147483647) → (a7 < v7) → z_T (r s' v6 v7) (P_X10_measureUnit_191 r0)) (hk : ∀ (s' : z_M) (v6 : Int), z_CI s' → z_Fr R_X10_measureUnit_191 r0 s' → (-2147483648 ≤ v6 ∧ v6 ≤ 2147483647) → z_T (k s' v6) (P_X10_measureUnit_191 r0)) : z_T (fX10_measureUnit_J96 fu s 191 a1 a2 a3 a4 a5 a6 a7 t0 r k) (P_X10_measureUnit_191 r0) := by
  refine T_of (fX10_measureUnit_J96.eq_1 ..) ?_
  refine T_if1 (by decide +kernel) ?_
  refine T_let 216 (by decide +kernel) ?_
  refine T_if1 (by decide +kernel) ?_
  refine T_put (by decide +kernel) (c := 217) (by decide +kernel) bdr_217 (by omega) c (fun s1 e4 c2 g5 => ?_)
  have f3 := z_Fr.up (R := R_X10_measureUnit_191) f g5 (by decide)
  refine T_if1 (by decide +kernel) ?_
  refine T_let 218 (by decide +kernel) ?_
  refine T_if1 (by decide +kernel) ?_
  refine T_put (by decide +kernel) (c := 219) (by decide +kernel) bdr_219 (by omega) c2 (fun s6 e9 c7 g10 => ?_)
  have f8 := z_Fr.up (R := R_X10_measureUnit_191) f3 g10 (by decide)
  refine T_leq (fun x11 e12 => ?_)
  have w13 := z_wb e12
  refine T_leq (fun x14 e15 => ?_)
  have w16 := z_wb e15
  exact hr s6 x11 x14 c7 f8 (by omega) (by omega) (by omega)
theorem sl_X10_measureUnit_191_L55 {fu : Nat} (hfu : 8589934592 ≤ fu) (r0 : z_M) (a1 : Int) (a2 : Int) (a3 : Int) (a4 : Int) (a5 : Int) (b1 : -2147483648 ≤ a1 ∧ a1 ≤ 2147483647) (b2 : -2147483648 ≤ a2 ∧ a2 ≤ 2147483647) (b3 : -2147483648 ≤ a3 ∧ a3 ≤ 2147483647) (b4 : -2147483648 ≤ a4 ∧ a4 ≤ 2147483647) (b5 : -2147483648 ≤ a5 ∧ a5 ≤ 2147483647) {k : z_M → Int → z_O} (hk : ∀ (s' : z_M) (v6 : Int), z_CI s' → z_Fr R_X10_measureUnit_191 r0 s' → (-2147483648 ≤ v6 ∧ v6 ≤ 2147483647) → z_T (k s' v6) (P_X10_measureUnit_191 r0)) : ∀ (F : Nat) (s : z_M) (a6 : Int) (a7 : Int), z_CI s → z_Fr R_X10_measureUnit_191 r0 s → (-2147483648 ≤ a6 ∧ a6 ≤ 2147483647) → (-2147483648 ≤ a7 ∧ a7 ≤ 2147483647) → (2147483647 - a7 < (F : Int)) → z_T (fX10_measureUnit_L55 fu 191 a1 a2 a3 a4 a5 F s a6 a7 k) (P_X10_measureUnit_191 r0) := by
  intro F
  induction F with
  | zero => intro s a6 a7 c f b6 b7 hm; exfalso; omega
  | succ F ih =>
    intro s a6 a7 c f b6 b7 hm
    refine T_of (fX10_measureUnit_L55.eq_2 ..) ?_
    refine T_leq (fun x1 e2 => ?_)
    have w3 := z_wb e2
    refine T_ite (fun h4 => ?_) (fun h4 => ?_)
    · exact hk s a6 c f (by omega)
    · refine T_ite (fun h5 => ?_) (fun h5 => ?_)
      · refine T_if1 (by decide +kernel) ?_
        refine T_let 192 (by decide +kernel) ?_
        refine T_if1 (by decide +kernel) ?_
        refine T_get (by decide +kernel) (c := 193) (by decide +kernel) bdr_193 (by decide) c (fun x6 e7 b8 w9 => ?_)
        have l10 : z_ln 192 = 200 := by decide +kernel
        refine T_if1 (by decide +kernel) ?_
        refine T_let 6 (by decide +kernel) ?_
        refine T_if1 (by decide +kernel) ?_
        refine T_let 7 (by decide +kernel) ?_
        refine T_if1 (by decide +kernel) ?_
        refine T_get (by decide +kernel) (c := 8) (by decide +kernel) bdr_8 (by decide) c (fun x11 e12 b13 w14 => ?_)
        have l15 : z_ln 7 = 200 := by decide +kernel
        refine T_useI (sf_X10_longOfSign hfu s c x6 x11 (by omega) (by omega)) (fun v21 s16 hq => ?_)
        obtain ⟨c17, f18, ⟨x20, rfl, b22, b23⟩⟩ := hq
        refine T_vI ?_
        have f19 := z_Fr.tr (R := R_X10_measureUnit_191) f f18 (fun a h => absurd h not_false)
        exact sj_X10_measureUnit_191_J96 hfu r0 s16 c17 f19 a1 a2 a3 a4 a5 a6 a7 x20 (by omega) (by omega) (by omega) (by omega) (by omega) (by omega) (by omega) (by omega) (fun s' v6 v7 c' f' w6 w7 pg => ih s' v6 v7 c' f' w6 w7 (by omega)) hk
      · exact sj_X10_measureUnit_191_J96 hfu r0 s c f a1 a2 a3 a4 a5 a6 a7 12 (by omega) (by omega) (by omega) (by omega) (by omega) (by omega) (by omega) (by omega) (fun s' v6 v7 c' f' w6 w7 pg => ih s' v6 v7 c' f' w6 w7 (by omega)) hk
theorem sj_X10_measureUnit_191_J150 {fu : Nat} (hfu : 8589934592 ≤ fu) (r0 s : z_M) (c : z_CI s) (f : z_Fr R_X10_measureUnit_191 r0 s) (a1 : Int) (a2 : Int) (t1 : Int) (t2 : Int) (b1 : -2147483648 ≤ a1 ∧ a1 ≤ 2147483647) (b2 : -2147483648 ≤ a2 ∧ a2 ≤ 2147483647) (d1 : -2147483648 ≤ t1 ∧ t1 ≤ 2147483647) (d2 : -2147483648 ≤ t2 ∧ t2 ≤ 2147483647) : z_T (fX10_measureUnit_J150 fu s 191 a1 a2 198 t1 t2) (P_X10_measureUnit_191 r0) := by
  refine T_of (fX10_measureUnit_J150.eq_1 ..) ?_
  refine T_if1 (by decide +kernel) ?_
  refine T_put (by decide +kernel) (c := 199) (by decide +kernel) bdr_199 (by omega) c (fun s1 e4 c2 g5 => ?_)
  have f3 := z_Fr.up (R := R_X10_measureUnit_191) f g5 (by decide)
  refine T_if1 (by decide +kernel) ?_
  refine T_let 200 (by decide +kernel) ?_
  refine T_if1 (by decide +kernel) ?_
  refine T_let 6 (by decide +kernel) ?_
  refine T_if1 (by decide +kernel) ?_
  refine T_let 11 (by decide +kernel) ?_
  refine T_if1 (by decide +kernel) ?_
  refine T_get (by decide +kernel) (c := 12) (by decide +kernel) bdr_12 (by decide) c2 (fun x6 e7 b8 w9 => ?_)
  have l10 : z_ln 11 = 200 := by decide +kernel
  refine T_if1 (by decide +kernel) ?_
  refine T_put (by decide +kernel) (c := 201) (by decide +kernel) bdr_201 (by omega) c2 (fun s11 e14 c12 g15 => ?_)
  have f13 := z_Fr.up (R := R_X10_measureUnit_191) f3 g15 (by decide)
  refine T_if1 (by decide +kernel) ?_
  refine T_let 202 (by decide +kernel) ?_
  refine T_if1 (by decide +kernel) ?_
  refine T_let 6 (by decide +kernel) ?_
  refine T_if1 (by decide +kernel) ?_
  refine T_useI (sf_X9_letterCount_6 hfu s11 c12 0 a2 (by omega) (by omega)) (fun v21 s16 hq => ?_)
  obtain ⟨c17, f18, ⟨x20, rfl, b22, b23⟩⟩ := hq
  refine T_vI ?_
  have f19 := z_Fr.tr (R := R_X10_measureUnit_191) f13 f18 (fun a h => absurd h not_false)
  refine T_if1 (by decide +kernel) ?_
  refine T_put (by decide +kernel) (c := 203) (by decide +kernel) bdr_203 (by omega) c17 (fun s24 e27 c25 g28 => ?_)
  have f26 := z_Fr.up (R := R_X10_measureUnit_191) f19 g28 (by decide)
  refine T_if1 (by decide +kernel) ?_
  refine T_let 204 (by decide +kernel) ?_
  refine T_if1 (by decide +kernel) ?_
  refine T_let 6 (by decide +kernel) ?_
  refine T_if1 (by decide +kernel) ?_
  refine T_useI (sf_X9_letterCount_6 hfu s24 c25 1 a2 (by omega) (by omega)) (fun v34 s29 hq => ?_)
  obtain ⟨c30, f31, ⟨x33, rfl, b35, b36⟩⟩ := hq
  refine T_vI ?_
  have f32 := z_Fr.tr (R := R_X10_measureUnit_191) f26 f31 (fun a h => absurd h not_false)
  refine T_if1 (by decide +kernel) ?_
  refine T_put (by decide +kernel) (c := 205) (by decide +kernel) bdr_205 (by omega) c30 (fun s37 e40 c38 g41 => ?_)
  have f39 := z_Fr.up (R := R_X10_measureUnit_191) f32 g41 (by decide)
  exact T_ret ⟨c38, f39, rfl⟩
theorem sj_X10_measureUnit_191_J47 {fu : Nat} (hfu : 8589934592 ≤ fu) (r0 s : z_M) (c : z_CI s) (f : z_Fr R_X10_measureUnit_191 r0 s) (a1 : Int) (a2 : Int) (a3 : Int) (a4 : Int) (t0 : Int) (b1 : -2147483648 ≤ a1 ∧ a1 ≤ 2147483647) (b2 : -2147483648 ≤ a2 ∧ a2 ≤ 2147483647) (b3 : -2147483648 ≤ a3 ∧ a3 ≤ 2147483647) (b4 : -2147483648 ≤ a4 ∧ a4 ≤ 2147483647) (d0 : 0 ≤ t0 ∧ t0 ≤ 1) : z_T (fX10_measureUnit_J47 fu s 191 a1 a2 a3 a4 t0) (P_X10_measureUnit_191 r0) := by
  refine T_of (fX10_measureUnit_J47.eq_1 ..) ?_
  refine sl_X10_measureUnit_191_L55 hfu r0 a1 a2 a3 a4 t0 (by omega) (by omega) (by omega) (by omega) (by omega) (fun s1 y4 c2 f3 b5 => ?_) fu s 0 a2 c f (by omega) (by omega) (by omega)
  refine T_if1 (by decide +kernel) ?_
  refine T_let 198 (by decide +kernel) ?_
  refine T_ite (fun h6 => ?_) (fun h6 => ?_)
  · exact sj_X10_measureUnit_191_J150 hfu r0 s1 c2 f3 a1 a2 a1 y4 (by omega) (by omega) (by omega) (by omega)
  · exact sj_X10_measureUnit_191_J150 hfu r0 s1 c2 f3 a1 a2 a1 12 (by omega) (by omega) (by omega) (by omega)
theorem sf_X10_measureUnit_191 {fu : Nat} (hfu : 8589934592 ≤ fu) (r0 : z_M) (c0 : z_CI r0) (a1 : Int) (b1 : -2147483648 ≤ a1 ∧ a1 ≤ 2147483647) : z_T (fX10_measureUnit fu r0 191 a1) (P_X10_measureUnit_191 r0) := by
  refine T_of (fX10_measureUnit.eq_1 ..) ?_
  refine T_if1 (by decide +kernel) ?_
  refine T_let 194 (by decide +kernel) ?_
  refine T_if1 (by decide +kernel) ?_
  refine T_get (by decide +kernel) (c := 195) (by decide +kernel) bdr_195 (by decide) c0 (fun x1 e2 b3 w4 => ?_)
  have l5 : z_ln 194 = 200 := by decide +kernel
  refine T_if1 (by decide +kernel) ?_
  refine T_let 196 (by decide +kernel) ?_
  refine T_if1 (by decide +kernel) ?_
  refine T_get (by decide +kernel) (c := 197) (by decide +kernel) bdr_197 (by decide) c0 (fun x6 e7 b8 w9 => ?_)
  have l10 : z_ln 196 = 200 := by decide +kernel
  refine T_if1 (by decide +kernel) ?_
  refine T_useI (sf_X10_isAcross_191 hfu r0 c0 a1 (by omega)) (fun v16 s11 hq => ?_)
  obtain ⟨c12, f13, ⟨x15, rfl, b17, b18⟩⟩ := hq
  refine T_vI ?_
  have f14 := z_Fr.tr (R := R_X10_measureUnit_191) z_Fr.rf f13 (fun a h => absurd h not_false)
  refine T_if1 (by decide +kernel) ?_
  refine T_let 192 (by decide +kernel) ?_
  refine T_if1 (by decide +kernel) ?_
  refine T_get (by decide +kernel) (c := 193) (by decide +kernel) bdr_193 (by decide) c12 (fun x19 e20 b21 w22 => ?_)
  have l23 : z_ln 192 = 200 := by decide +kernel
  refine T_if1 (by decide +kernel) ?_
  refine T_useI (sf_X10_isTurned_191 hfu s11 c12 x19 x15 (by omega) (by omega)) (fun v29 s24 hq => ?_)
  obtain ⟨c25, f26, ⟨x28, rfl, b30, b31⟩⟩ := hq
  refine T_vI ?_
  have f27 := z_Fr.tr (R := R_X10_measureUnit_191) f14 f26 (fun a h => absurd h not_false)
  refine T_ite (fun h32 => ?_) (fun h32 => ?_)
  · exact sj_X10_measureUnit_191_J47 hfu r0 s24 c25 f27 a1 x1 x6 x15 0 (by omega) (by omega) (by omega) (by omega) (by omega)
  · exact sj_X10_measureUnit_191_J47 hfu r0 s24 c25 f27 a1 x1 x6 x15 1 (by omega) (by omega) (by omega) (by omega) (by omega)
abbrev R_X10_addUp_191 (a : Int) : Prop := (211 ≤ a ∧ a ≤ 211) ∨ (213 ≤ a ∧ a ≤ 213)
abbrev P_X10_addUp_191 (r0 : z_M) : z_V → z_M → Prop := fun v s' => z_CI s' ∧ z_Fr R_X10_addUp_191 r0 s' ∧ (v = vN)
theorem sj_X10_addUp_191_J99 {fu : Nat} (hfu : 8589934592 ≤ fu) (r0 s : z_M) (c : z_CI s) (f : z_Fr R_X10_addUp_191 r0 s) (a1 : Int) (t1 : Int) (t2 : Int) (t3 : Int) (b1 : -2147483648 ≤ a1 ∧ a1 ≤ 2147483646) (d1 : -2147483648 ≤ t1 ∧ t1 ≤ 2147483647) (d2 : -2147483648 ≤ t2 ∧ t2 ≤ 2147483647) (d3 : -2147483648 ≤ t3 ∧ t3 ≤ 2147483647) {r : z_M → Int → z_O} {k : z_M → z_O} (hr : ∀ (s' : z_M) (v1 : Int), z_CI s' → z_Fr R_X10_addUp_191 r0 s' → (-2147483648 ≤ v1 ∧ v1 ≤ 2147483647) → (a1 < v1) → z_T (r s' v1) (P_X10_addUp_191 r0)) (hk : ∀ (s' : z_M), z_CI s' → z_Fr R_X10_addUp_191 r0 s' → z_T (k s') (P_X10_addUp_191 r0)) : z_T (fX10_addUp_J99 fu s 191 a1 212 t1 t2 t3 r k) (P_X10_addUp_191 r0) := by
  refine T_of (fX10_addUp_J99.eq_1 ..) ?_
  have u1 := CI_b c (k := 191) (j := 16) bd_191_16
  refine T_leq (fun x2 e3 => ?_)
  have w4 := z_wb e3
  refine T_if1 (by decide +kernel) ?_
  refine T_put (by decide +kernel) (c := 213) (by decide +kernel) bdr_213 (by omega) c (fun s5 e8 c6 g9 => ?_)
  have f7 := z_Fr.up (R := R_X10_addUp_191) f g9 (by decide)
  have t10 : s5 191 16 = s 191 16 := g9 191 16 (by decide)
  refine T_leq (fun x11 e12 => ?_)
  have w13 := z_wb e12
  exact hr s5 x11 c6 f7 (by omega) (by omega)
theorem sj_X10_addUp_191_J40 {fu : Nat} (hfu : 8589934592 ≤ fu) (r0 s : z_M) (c : z_CI s) (f : z_Fr R_X10_addUp_191 r0 s) (a1 : Int) (t0 : Int) (b1 : -2147483648 ≤ a1 ∧ a1 ≤ 2147483646) (d0 : 0 ≤ t0 ∧ t0 ≤ 1) {r : z_M → Int → z_O} {k : z_M → z_O} (hr : ∀ (s' : z_M) (v1 : Int), z_CI s' → z_Fr R_X10_addUp_191 r0 s' → (-2147483648 ≤ v1 ∧ v1 ≤ 2147483647) → (a1 < v1) → z_T (r s' v1) (P_X10_addUp_191 r0)) (hk : ∀ (s' : z_M), z_CI s' → z_Fr R_X10_addUp_191 r0 s' → z_T (k s') (P_X10_addUp_191 r0)) : z_T (fX10_addUp_J40 fu s 191 a1 t0 r k) (P_X10_addUp_191 r0) := by
  refine T_of (fX10_addUp_J40.eq_1 ..) ?_
  have u1 := CI_b c (k := 191) (j := 16) bd_191_16
  refine T_if1 (by decide +kernel) ?_
  refine T_let 210 (by decide +kernel) ?_
  refine T_leq (fun x2 e3 => ?_)
  have w4 := z_wb e3
  refine T_if1 (by decide +kernel) ?_
  refine T_let 210 (by decide +kernel) ?_
  refine T_if1 (by decide +kernel) ?_
  refine T_get (by decide +kernel) (c := 211) (by decide +kernel) bdr_211 (by decide) c (fun x5 e6 b7 w8 => ?_)
  have l9 : z_ln 210 = 201 := by decide +kernel
  refine T_if1 (by decide +kernel) ?_
  refine T_let 198 (by decide +kernel) ?_
  refine T_if1 (by decide +kernel) ?_
  refine T_get (by decide +kernel) (c := 199) (by decide +kernel) bdr_199 (by decide) c (fun x10 e11 b12 w13 => ?_)
  have l14 : z_ln 198 = 200 := by decide +kernel
  refine T_leq (fun x15 e16 => ?_)
  have w17 := z_wb e16
  refine T_if1 (by decide +kernel) ?_
  refine T_put (by decide +kernel) (c := 211) (by decide +kernel) bdr_211 (by omega) c (fun s18 e21 c19 g22 => ?_)
  have f20 := z_Fr.up (R := R_X10_addUp_191) f g22 (by decide)
  have t23 : s18 191 16 = s 191 16 := g22 191 16 (by decide)
  refine T_if1 (by decide +kernel) ?_
  refine T_let 212 (by decide +kernel) ?_
  refine T_leq (fun x24 e25 => ?_)
  have w26 := z_wb e25
  refine T_if1 (by decide +kernel) ?_
  refine T_let 212 (by decide +kernel) ?_
  refine T_if1 (by decide +kernel) ?_
  refine T_get (by decide +kernel) (c := 213) (by decide +kernel) bdr_213 (by decide) c19 (fun x27 e28 b29 w30 => ?_)
  have l31 : z_ln 212 = 201 := by decide +kernel
  refine T_ite (fun h32 => ?_) (fun h32 => ?_)
  · refine T_if1 (by decide +kernel) ?_
    refine T_let 198 (by decide +kernel) ?_
    refine T_if1 (by decide +kernel) ?_
    refine T_get (by decide +kernel) (c := 199) (by decide +kernel) bdr_199 (by decide) c19 (fun x33 e34 b35 w36 => ?_)
    have l37 : z_ln 198 = 200 := by decide +kernel
    exact sj_X10_addUp_191_J99 hfu r0 s18 c19 f20 a1 x24 x27 x33 (by omega) (by omega) (by omega) (by omega) (fun s' v1 c' f' w1 pg => hr s' v1 c' f' w1 (by omega)) hk
  · exact sj_X10_addUp_191_J99 hfu r0 s18 c19 f20 a1 x24 x27 0 (by omega) (by omega) (by omega) (by omega) (fun s' v1 c' f' w1 pg => hr s' v1 c' f' w1 (by omega)) hk
theorem sj_X10_addUp_191_J35 {fu : Nat} (hfu : 8589934592 ≤ fu) (r0 s : z_M) (c : z_CI s) (f : z_Fr R_X10_addUp_191 r0 s) (a1 : Int) (b1 : -2147483648 ≤ a1 ∧ a1 ≤ 2147483646) {r : z_M → Int → z_O} {k : z_M → z_O} (hr : ∀ (s' : z_M) (v1 : Int), z_CI s' → z_Fr R_X10_addUp_191 r0 s' → (-2147483648 ≤ v1 ∧ v1 ≤ 2147483647) → (a1 < v1) → z_T (r s' v1) (P_X10_addUp_191 r0)) (hk : ∀ (s' : z_M), z_CI s' → z_Fr R_X10_addUp_191 r0 s' → z_T (k s') (P_X10_addUp_191 r0)) : z_T (fX10_addUp_J35 fu s 191 a1 r k) (P_X10_addUp_191 r0) := by
  refine T_of (fX10_addUp_J35.eq_1 ..) ?_
  have u1 := CI_b c (k := 191) (j := 16) bd_191_16
  exact sj_X10_addUp_191_J40 hfu r0 s c f a1 1 (by omega) (by omega) (fun s' v1 c' f' w1 pg => hr s' v1 c' f' w1 (by omega)) hk
theorem sl_X10_addUp_191_L2 {fu : Nat} (hfu : 8589934592 ≤ fu) (r0 : z_M) {k : z_M → z_O} (hk : ∀ (s' : z_M), z_CI s' → z_Fr R_X10_addUp_191 r0 s' → z_T (k s') (P_X10_addUp_191 r0)) : ∀ (F : Nat) (s : z_M) (a1 : Int), z_CI s → z_Fr R_X10_addUp_191 r0 s → (-2147483648 ≤ a1 ∧ a1 ≤ 2147483647) → (2147483647 - a1 < (F : Int)) → z_T (fX10_addUp_L2 fu 191 F s a1 k) (P_X10_addUp_191 r0) := by
  intro F
  induction F with
  | zero => intro s a1 c f b1 hm; exfalso; omega
  | succ F ih =>
    intro s a1 c f b1 hm
    refine T_of (fX10_addUp_L2.eq_2 ..) ?_
    have u1 := CI_b c (k := 191) (j := 16) bd_191_16
    refine T_if1 (by decide +kernel) ?_
    refine T_leq (fun x2 e3 => ?_)
    have u4 := CI_b c (k := 191) (j := 16) bd_191_16
    refine T_ite (fun h5 => ?_) (fun h5 => ?_)
    · exact hk s c f
    · refine T_if1 (by decide +kernel) ?_
      refine T_let 192 (by decide +kernel) ?_
      refine T_if1 (by decide +kernel) ?_
      refine T_get (by decide +kernel) (c := 193) (by decide +kernel) bdr_193 (by decide) c (fun x6 e7 b8 w9 => ?_)
      have l10 : z_ln 192 = 200 := by decide +kernel
      refine T_ite (fun h11 => ?_) (fun h11 => ?_)
      · exact sj_X10_addUp_191_J35 hfu r0 s c f a1 (by omega) (fun s' v1 c' f' w1 pg => ih s' v1 c' f' w1 (by omega)) hk
      · refine T_if1 (by decide +kernel) ?_
        refine T_let 192 (by decide +kernel) ?_
        refine T_if1 (by decide +kernel) ?_
        refine T_get (by decide +kernel) (c := 193) (by decide +kernel) bdr_193 (by decide) c (fun x12 e13 b14 w15 => ?_)
        have l16 : z_ln 192 = 200 := by decide +kernel
        refine T_ite (fun h17 => ?_) (fun h17 => ?_)
        · exact sj_X10_addUp_191_J40 hfu r0 s c f a1 0 (by omega) (by omega) (fun s' v1 c' f' w1 pg => ih s' v1 c' f' w1 (by omega)) hk
        · exact sj_X10_addUp_191_J35 hfu r0 s c f a1 (by omega) (fun s' v1 c' f' w1 pg => ih s' v1 c' f' w1 (by omega)) hk
theorem sf_X10_addUp_191 {fu : Nat} (hfu : 8589934592 ≤ fu) (r0 : z_M) (c0 : z_CI r0) : z_T (fX10_addUp fu r0 191) (P_X10_addUp_191 r0) := by
  refine T_of (fX10_addUp.eq_1 ..) ?_
  refine sl_X10_addUp_191_L2 hfu r0 (fun s1 c2 f3 => ?_) fu r0 0 c0 z_Fr.rf (by omega) (by omega)
  have u4 := CI_b c2 (k := 191) (j := 16) bd_191_16
  exact T_ret ⟨c2, f3, rfl⟩
abbrev R_X10_latestOpen_191 (a : Int) : Prop := False
abbrev P_X10_latestOpen_191 (r0 : z_M) : z_V → z_M → Prop := fun v s' => z_CI s' ∧ z_Fr R_X10_latestOpen_191 r0 s' ∧ (∃ x, v = vI x ∧ -2147483648 ≤ x ∧ x ≤ 2147483647)
theorem sj_X10_latestOpen_191_J34 {fu : Nat} (hfu : 8589934592 ≤ fu) (r0 s : z_M) (c : z_CI s) (f : z_Fr R_X10_latestOpen_191 r0 s) (a2 : Int) (b2 : -2147483647 ≤ a2 ∧ a2 ≤ 2147483647) {r : z_M → Int → z_O} {k : z_M → z_O} (hr : ∀ (s' : z_M) (v2 : Int), z_CI s' → z_Fr R_X10_latestOpen_191 r0 s' → (-2147483648 ≤ v2 ∧ v2 ≤ 2147483647) → (v2 < a2) → z_T (r s' v2) (P_X10_latestOpen_191 r0)) (hk : ∀ (s' : z_M), z_CI s' → z_Fr R_X10_latestOpen_191 r0 s' → z_T (k s') (P_X10_latestOpen_191 r0)) : z_T (fX10_latestOpen_J34 fu s 191 a2 r k) (P_X10_latestOpen_191 r0) := by
  refine T_of (fX10_latestOpen_J34.eq_1 ..) ?_
  refine T_leq (fun x1 e2 => ?_)
  have w3 := z_wb e2
  exact hr s x1 c f (by omega) (by omega)
theorem sl_X10_latestOpen_191_L4 {fu : Nat} (hfu : 8589934592 ≤ fu) (r0 : z_M) {k : z_M → z_O} (hk : ∀ (s' : z_M), z_CI s' → z_Fr R_X10_latestOpen_191 r0 s' → z_T (k s') (P_X10_latestOpen_191 r0)) : ∀ (F : Nat) (s : z_M) (a2 : Int), z_CI s → z_Fr R_X10_latestOpen_191 r0 s → (-2147483648 ≤ a2 ∧ a2 ≤ 2147483647) → (a2 + 2147483648 < (F : Int)) → z_T (fX10_latestOpen_L4 fu 191 F s a2 k) (P_X10_latestOpen_191 r0) := by
  intro F
  induction F with
  | zero => intro s a2 c f b2 hm; exfalso; omega
  | succ F ih =>
    intro s a2 c f b2 hm
    refine T_of (fX10_latestOpen_L4.eq_2 ..) ?_
    refine T_ite (fun h1 => ?_) (fun h1 => ?_)
    · exact hk s c f
    · refine T_if1 (by decide +kernel) ?_
      refine T_let 192 (by decide +kernel) ?_
      refine T_if1 (by decide +kernel) ?_
      refine T_get (by decide +kernel) (c := 193) (by decide +kernel) bdr_193 (by decide) c (fun x2 e3 b4 w5 => ?_)
      have l6 : z_ln 192 = 200 := by decide +kernel
      refine T_ite (fun h7 => ?_) (fun h7 => ?_)
      · exact sj_X10_latestOpen_191_J34 hfu r0 s c f a2 (by omega) (fun s' v2 c' f' w2 pg => ih s' v2 c' f' w2 (by omega)) hk
      · refine T_if1 (by decide +kernel) ?_
        refine T_let 206 (by decide +kernel) ?_
        refine T_if1 (by decide +kernel) ?_
        refine T_get (by decide +kernel) (c := 207) (by decide +kernel) bdr_207 (by decide) c (fun x8 e9 b10 w11 => ?_)
        have l12 : z_ln 206 = 200 := by decide +kernel
        refine T_ite (fun h13 => ?_) (fun h13 => ?_)
        · exact sj_X10_latestOpen_191_J34 hfu r0 s c f a2 (by omega) (fun s' v2 c' f' w2 pg => ih s' v2 c' f' w2 (by omega)) hk
        · exact T_ret ⟨c, f, ⟨a2, rfl, by omega, by omega⟩⟩
theorem sf_X10_latestOpen_191 {fu : Nat} (hfu : 8589934592 ≤ fu) (r0 : z_M) (c0 : z_CI r0) (a1 : Int) (b1 : -2147483648 ≤ a1 ∧ a1 ≤ 2147483647) : z_T (fX10_latestOpen fu r0 191 a1) (P_X10_latestOpen_191 r0) := by
  refine T_of (fX10_latestOpen.eq_1 ..) ?_
  refine T_leq (fun x1 e2 => ?_)
  have w3 := z_wb e2
  refine sl_X10_latestOpen_191_L4 hfu r0 (fun s4 c5 f6 => ?_) fu r0 x1 c0 z_Fr.rf (by omega) (by omega)
  exact T_ret ⟨c5, f6, ⟨(-1), rfl, by omega, by omega⟩⟩
abbrev R_X10_pairUp_191 (a : Int) : Prop := (191 ≤ a ∧ a ≤ 191) ∨ (207 ≤ a ∧ a ≤ 207)
abbrev P_X10_pairUp_191 (r0 : z_M) : z_V → z_M → Prop := fun v s' => z_CI s' ∧ z_Fr R_X10_pairUp_191 r0 s' ∧ (v = vN)
theorem sj_X10_pairUp_191_J79 {fu : Nat} (hfu : 8589934592 ≤ fu) (r0 s : z_M) (c : z_CI s) (f : z_Fr R_X10_pairUp_191 r0 s) (a1 : Int) (b1 : -2147483648 ≤ a1 ∧ a1 ≤ 2147483646) {r : z_M → Int → z_O} {k : z_M → z_O} (hr : ∀ (s' : z_M) (v1 : Int), z_CI s' → z_Fr R_X10_pairUp_191 r0 s' → (-2147483648 ≤ v1 ∧ v1 ≤ 2147483647) → (a1 < v1) → z_T (r s' v1) (P_X10_pairUp_191 r0)) (hk : ∀ (s' : z_M), z_CI s' → z_Fr R_X10_pairUp_191 r0 s' → z_T (k s') (P_X10_pairUp_191 r0)) : z_T (fX10_pairUp_J79 fu s 191 a1 r k) (P_X10_pairUp_191 r0) := by
  refine T_of (fX10_pairUp_J79.eq_1 ..) ?_
  have u1 := CI_b c (k := 191) (j := 16) bd_191_16
  have u2 := CI_b c (k := 191) (j := 17) bd_191_17
  refine T_leq (fun x3 e4 => ?_)
  have w5 := z_wb e4
  exact hr s x3 c f (by omega) (by omega)
theorem sj_X10_pairUp_191_J45 {fu : Nat} (hfu : 8589934592 ≤ fu) (r0 s : z_M) (c : z_CI s) (f : z_Fr R_X10_pairUp_191 r0 s) (a1 : Int) (t0 : Int) (b1 : -2147483648 ≤ a1 ∧ a1 ≤ 2147483646) (d0 : -2147483648 ≤ t0 ∧ t0 ≤ 2147483647) {r : z_M → Int → z_O} {k : z_M → z_O} (hr : ∀ (s' : z_M) (v1 : Int), z_CI s' → z_Fr R_X10_pairUp_191 r0 s' → (-2147483648 ≤ v1 ∧ v1 ≤ 2147483647) → (a1 < v1) → z_T (r s' v1) (P_X10_pairUp_191 r0)) (hk : ∀ (s' : z_M), z_CI s' → z_Fr R_X10_pairUp_191 r0 s' → z_T (k s') (P_X10_pairUp_191 r0)) : z_T (fX10_pairUp_J45 fu s 191 a1 t0 r k) (P_X10_pairUp_191 r0) := by
  refine T_of (fX10_pairUp_J45.eq_1 ..) ?_
  have u1 := CI_b c (k := 191) (j := 16) bd_191_16
  have u2 := CI_b c (k := 191) (j := 17) bd_191_17
  refine T_ite (fun h3 => ?_) (fun h3 => ?_)
  · exact sj_X10_pairUp_191_J79 hfu r0 s c f a1 (by omega) (fun s' v1 c' f' w1 pg => hr s' v1 c' f' w1 (by omega)) hk
  · refine T_if1 (by decide +kernel) ?_
    refine T_let 206 (by decide +kernel) ?_
    refine T_if1 (by decide +kernel) ?_
    refine T_put (by decide +kernel) (c := 207) (by decide +kernel) bdr_207 (by omega) c (fun s4 e7 c5 g8 => ?_)
    have f6 := z_Fr.up (R := R_X10_pairUp_191) f g8 (by decide)
    have t9 : s4 191 16 = s 191 16 := g8 191 16 (by decide)
    have t10 : s4 191 17 = s 191 17 := g8 191 17 (by decide)
    refine T_if1 (by decide +kernel) ?_
    refine T_let 206 (by decide +kernel) ?_
    refine T_if1 (by decide +kernel) ?_
    refine T_put (by decide +kernel) (c := 207) (by decide +kernel) bdr_207 (by omega) c5 (fun s11 e14 c12 g15 => ?_)
    have f13 := z_Fr.up (R := R_X10_pairUp_191) f6 g15 (by decide)
    have t16 : s11 191 16 = s4 191 16 := g15 191 16 (by decide)
    have t17 : s11 191 17 = s4 191 17 := g15 191 17 (by decide)
    refine T_if1 (by decide +kernel) ?_
    refine T_leq (fun x18 e19 => ?_)
    have u20 := CI_b c12 (k := 191) (j := 17) bd_191_17
    refine T_leq (fun x21 e22 => ?_)
    have w23 := z_wb e22
    refine T_if1 (by decide +kernel) ?_
    refine T_upg c12 bd_191_17 (by omega) (fun s24 c25 g27 g28 e29 => ?_)
    have f26 := z_Fr.up (R := R_X10_pairUp_191) f13 g27 (by decide)
    have t30 : s24 191 16 = s11 191 16 := g28 16 (by decide)
    exact sj_X10_pairUp_191_J79 hfu r0 s24 c25 f26 a1 (by omega) (fun s' v1 c' f' w1 pg => hr s' v1 c' f' w1 (by omega)) hk
theorem sl_X10_pairUp_191_L7 {fu : Nat} (hfu : 8589934592 ≤ fu) (r0 : z_M) {k : z_M → z_O} (hk : ∀ (s' : z_M), z_CI s' → z_Fr R_X10_pairUp_191 r0 s' → z_T (k s') (P_X10_pairUp_191 r0)) : ∀ (F : Nat) (s : z_M) (a1 : Int), z_CI s → z_Fr R_X10_pairUp_191 r0 s → (-2147483648 ≤ a1 ∧ a1 ≤ 2147483647) → (2147483647 - a1 < (F : Int)) → z_T (fX10_pairUp_L7 fu 191 F s a1 k) (P_X10_pairUp_191 r0) := by
  intro F
  induction F with
  | zero => intro s a1 c f b1 hm; exfalso; omega
  | succ F ih =>
    intro s a1 c f b1 hm
    refine T_of (fX10_pairUp_L7.eq_2 ..) ?_
    have u1 := CI_b c (k := 191) (j := 16) bd_191_16
    have u2 := CI_b c (k := 191) (j := 17) bd_191_17
    refine T_if1 (by decide +kernel) ?_
    refine T_leq (fun x3 e4 => ?_)
    have u5 := CI_b c (k := 191) (j := 16) bd_191_16
    refine T_ite (fun h6 => ?_) (fun h6 => ?_)
    · exact hk s c f
    · refine T_if1 (by decide +kernel) ?_
      refine T_let 206 (by decide +kernel) ?_
      refine T_if1 (by decide +kernel) ?_
      refine T_put (by decide +kernel) (c := 207) (by decide +kernel) bdr_207 (by omega) c (fun s7 e10 c8 g11 => ?_)
      have f9 := z_Fr.up (R := R_X10_pairUp_191) f g11 (by decide)
      have t12 : s7 191 16 = s 191 16 := g11 191 16 (by decide)
      have t13 : s7 191 17 = s 191 17 := g11 191 17 (by decide)
      refine T_if1 (by decide +kernel) ?_
      refine T_let 192 (by decide +kernel) ?_
      refine T_if1 (by decide +kernel) ?_
      refine T_get (by decide +kernel) (c := 193) (by decide +kernel) bdr_193 (by decide) c8 (fun x14 e15 b16 w17 => ?_)
      have l18 : z_ln 192 = 200 := by decide +kernel
      refine T_ite (fun h19 => ?_) (fun h19 => ?_)
      · exact sj_X10_pairUp_191_J45 hfu r0 s7 c8 f9 a1 (-1) (by omega) (by omega) (fun s' v1 c' f' w1 pg => ih s' v1 c' f' w1 (by omega)) hk
      · refine T_if1 (by decide +kernel) ?_
        refine T_useI (sf_X10_latestOpen_191 hfu s7 c8 a1 (by omega)) (fun v25 s20 hq => ?_)
        obtain ⟨c21, f22, ⟨x24, rfl, b26, b27⟩⟩ := hq
        refine T_vI ?_
        have f23 := z_Fr.tr (R := R_X10_pairUp_191) f9 f22 (fun a h => absurd h not_false)
        have t28 : s20 191 16 = s7 191 16 := f22 191 16 (by decide)
        have t29 : s20 191 17 = s7 191 17 := f22 191 17 (by decide)
        exact sj_X10_pairUp_191_J45 hfu r0 s20 c21 f23 a1 x24 (by omega) (by omega) (fun s' v1 c' f' w1 pg => ih s' v1 c' f' w1 (by omega)) hk
theorem sf_X10_pairUp_191 {fu : Nat} (hfu : 8589934592 ≤ fu) (r0 : z_M) (c0 : z_CI r0) : z_T (fX10_pairUp fu r0 191) (P_X10_pairUp_191 r0) := by
  refine T_of (fX10_pairUp.eq_1 ..) ?_
  refine T_if1 (by decide +kernel) ?_
  refine T_upg c0 bd_191_17 (by omega) (fun s1 c2 g4 g5 e6 => ?_)
  have f3 := z_Fr.up (R := R_X10_pairUp_191) z_Fr.rf g4 (by decide)
  have t7 : s1 191 16 = r0 191 16 := g5 16 (by decide)
  refine sl_X10_pairUp_191_L7 hfu r0 (fun s8 c9 f10 => ?_) fu s1 0 c2 f3 (by omega) (by omega)
  have u11 := CI_b c9 (k := 191) (j := 16) bd_191_16
  have u12 := CI_b c9 (k := 191) (j := 17) bd_191_17
  exact T_ret ⟨c9, f10, rfl⟩
abbrev R_X10_allowsEnd_191 (a : Int) : Prop := False
abbrev P_X10_allowsEnd_191 (r0 : z_M) : z_V → z_M → Prop := fun v s' => z_CI s' ∧ z_Fr R_X10_allowsEnd_191 r0 s' ∧ (∃ x, v = vI x ∧ 0 ≤ x ∧ x ≤ 1)
theorem sj_X10_allowsEnd_191_J22 {fu : Nat} (hfu : 8589934592 ≤ fu) (r0 s : z_M) (c : z_CI s) (f : z_Fr R_X10_allowsEnd_191 r0 s) : z_T (fX10_allowsEnd_J22 fu s) (P_X10_allowsEnd_191 r0) := by
  refine T_of (fX10_allowsEnd_J22.eq_1 ..) ?_
  have u1 := CI_b c (k := 191) (j := 16) bd_191_16
  refine T_if1 (by unfold z_bl; omega) ?_
  exact T_ret ⟨c, f, ⟨0, rfl, by omega, by omega⟩⟩
theorem sj_X10_allowsEnd_191_J57 {fu : Nat} (hfu : 8589934592 ≤ fu) (r0 s : z_M) (c : z_CI s) (f : z_Fr R_X10_allowsEnd_191 r0 s) (t0 : Int) (d0 : 0 ≤ t0 ∧ t0 ≤ 1) : z_T (fX10_allowsEnd_J57 fu s t0) (P_X10_allowsEnd_191 r0) := by
  refine T_of (fX10_allowsEnd_J57.eq_1 ..) ?_
  have u1 := CI_b c (k := 191) (j := 16) bd_191_16
  refine T_if1 (by unfold z_bl; omega) ?_
  exact T_ret ⟨c, f, ⟨t0, rfl, by omega, by omega⟩⟩
theorem sj_X10_allowsEnd_191_J56 {fu : Nat} (hfu : 8589934592 ≤ fu) (r0 s : z_M) (c : z_CI s) (f : z_Fr R_X10_allowsEnd_191 r0 s) : z_T (fX10_allowsEnd_J56 fu s) (P_X10_allowsEnd_191 r0) := by
  refine T_of (fX10_allowsEnd_J56.eq_1 ..) ?_
  have u1 := CI_b c (k := 191) (j := 16) bd_191_16
  exact sj_X10_allowsEnd_191_J57 hfu r0 s c f 0 (by omega)
theorem sf_X10_allowsEnd_191 {fu : Nat} (hfu : 8589934592 ≤ fu) (r0 : z_M) (c0 : z_CI r0) (a1 : Int) (b1 : -2147483648 ≤ a1 ∧ a1 ≤ 2147483647) : z_T (fX10_allowsEnd fu r0 191 a1) (P_X10_allowsEnd_191 r0) := by
  refine T_of (fX10_allowsEnd.eq_1 ..) ?_
  refine T_if1 (by decide +kernel) ?_
  refine T_leq (fun x1 e2 => ?_)
  have u3 := CI_b c0 (k := 191) (j := 16) bd_191_16
  refine T_leq (fun x4 e5 => ?_)
  have w6 := z_wb e5
  refine T_ite (fun h7 => ?_) (fun h7 => ?_)
  · exact sj_X10_allowsEnd_191_J22 hfu r0 r0 c0 z_Fr.rf
  · refine T_if1 (by decide +kernel) ?_
    refine T_let 192 (by decide +kernel) ?_
    refine T_if1 (by decide +kernel) ?_
    refine T_get (by decide +kernel) (c := 193) (by decide +kernel) bdr_193 (by decide) c0 (fun x8 e9 b10 w11 => ?_)
    have l12 : z_ln 192 = 200 := by decide +kernel
    refine T_ite (fun h13 => ?_) (fun h13 => ?_)
    · refine T_if1 (by decide +kernel) ?_
      refine T_let 192 (by decide +kernel) ?_
      refine T_leq (fun x14 e15 => ?_)
      have w16 := z_wb e15
      refine T_if1 (by decide +kernel) ?_
      refine T_get (by decide +kernel) (c := 193) (by decide +kernel) bdr_193 (by decide) c0 (fun x17 e18 b19 w20 => ?_)
      have l21 : z_ln 192 = 200 := by decide +kernel
      refine T_ite (fun h22 => ?_) (fun h22 => ?_)
      · exact sj_X10_allowsEnd_191_J56 hfu r0 r0 c0 z_Fr.rf
      · refine T_if1 (by decide +kernel) ?_
        refine T_let 192 (by decide +kernel) ?_
        refine T_leq (fun x23 e24 => ?_)
        have w25 := z_wb e24
        refine T_if1 (by decide +kernel) ?_
        refine T_get (by decide +kernel) (c := 193) (by decide +kernel) bdr_193 (by decide) c0 (fun x26 e27 b28 w29 => ?_)
        have l30 : z_ln 192 = 200 := by decide +kernel
        refine T_ite (fun h31 => ?_) (fun h31 => ?_)
        · exact sj_X10_allowsEnd_191_J56 hfu r0 r0 c0 z_Fr.rf
        · exact sj_X10_allowsEnd_191_J57 hfu r0 r0 c0 z_Fr.rf 1 (by omega)
    · exact sj_X10_allowsEnd_191_J22 hfu r0 r0 c0 z_Fr.rf
abbrev R_X10_tie_191 (a : Int) : Prop := (191 ≤ a ∧ a ≤ 191) ∨ (209 ≤ a ∧ a ≤ 209)
abbrev P_X10_tie_191 (r0 : z_M) : z_V → z_M → Prop := fun v s' => z_CI s' ∧ z_Fr R_X10_tie_191 r0 s' ∧ (v = vN)
theorem sj_X10_tie_191_J108 {fu : Nat} (hfu : 8589934592 ≤ fu) (r0 s : z_M) (c : z_CI s) (f : z_Fr R_X10_tie_191 r0 s) (a1 : Int) (b1 : -2147483648 ≤ a1 ∧ a1 ≤ 2147483646) {r : z_M → Int → z_O} {k : z_M → z_O} (hr : ∀ (s' : z_M) (v1 : Int), z_CI s' → z_Fr R_X10_tie_191 r0 s' → (-2147483648 ≤ v1 ∧ v1 ≤ 2147483647) → (a1 < v1) → z_T (r s' v1) (P_X10_tie_191 r0)) (hk : ∀ (s' : z_M), z_CI s' → z_Fr R_X10_tie_191 r0 s' → z_T (k s') (P_X10_tie_191 r0)) : z_T (fX10_tie_J108 fu s 191 a1 r k) (P_X10_tie_191 r0) := by
  refine T_of (fX10_tie_J108.eq_1 ..) ?_
  have u1 := CI_b c (k := 191) (j := 16) bd_191_16
  have u2 := CI_b c (k := 191) (j := 18) bd_191_18
  refine T_leq (fun x3 e4 => ?_)
  have w5 := z_wb e4
  exact hr s x3 c f (by omega) (by omega)
theorem sl_X10_tie_191_L88 {fu : Nat} (hfu : 8589934592 ≤ fu) (r0 : z_M) (a1 : Int) (a2 : Int) (b1 : -2147483648 ≤ a1 ∧ a1 ≤ 2147483647) (b2 : -2147483648 ≤ a2 ∧ a2 ≤ 2147483647) {k : z_M → z_O} (hk : ∀ (s' : z_M), z_CI s' → z_Fr R_X10_tie_191 r0 s' → z_T (k s') (P_X10_tie_191 r0)) : ∀ (F : Nat) (s : z_M) (a3 : Int), z_CI s → z_Fr R_X10_tie_191 r0 s → (-2147483648 ≤ a3 ∧ a3 ≤ 2147483647) → (2147483647 - a3 < (F : Int)) → z_T (fX10_tie_L88 fu 191 a1 a2 F s a3 k) (P_X10_tie_191 r0) := by
  intro F
  induction F with
  | zero => intro s a3 c f b3 hm; exfalso; omega
  | succ F ih =>
    intro s a3 c f b3 hm
    refine T_of (fX10_tie_L88.eq_2 ..) ?_
    have u1 := CI_b c (k := 191) (j := 16) bd_191_16
    have u2 := CI_b c (k := 191) (j := 18) bd_191_18
    refine T_ite (fun h3 => ?_) (fun h3 => ?_)
    · exact hk s c f
    · refine T_if1 (by decide +kernel) ?_
      refine T_let 208 (by decide +kernel) ?_
      refine T_if1 (by decide +kernel) ?_
      refine T_put (by decide +kernel) (c := 209) (by decide +kernel) bdr_209 (by omega) c (fun s4 e7 c5 g8 => ?_)
      have f6 := z_Fr.up (R := R_X10_tie_191) f g8 (by decide)
      have t9 : s4 191 16 = s 191 16 := g8 191 16 (by decide)
      have t10 : s4 191 18 = s 191 18 := g8 191 18 (by decide)
      refine T_leq (fun x11 e12 => ?_)
      have w13 := z_wb e12
      exact ih s4 x11 c5 f6 (by omega) (by omega)
theorem sj_X10_tie_191_J39 {fu : Nat} (hfu : 8589934592 ≤ fu) (r0 s : z_M) (c : z_CI s) (f : z_Fr R_X10_tie_191 r0 s) (a1 : Int) (t0 : Int) (b1 : -2147483648 ≤ a1 ∧ a1 ≤ 2147483646) (d0 : -2147483648 ≤ t0 ∧ t0 ≤ 2147483647) {r : z_M → Int → z_O} {k : z_M → z_O} (hr : ∀ (s' : z_M) (v1 : Int), z_CI s' → z_Fr R_X10_tie_191 r0 s' → (-2147483648 ≤ v1 ∧ v1 ≤ 2147483647) → (a1 < v1) → z_T (r s' v1) (P_X10_tie_191 r0)) (hk : ∀ (s' : z_M), z_CI s' → z_Fr R_X10_tie_191 r0 s' → z_T (k s') (P_X10_tie_191 r0)) : z_T (fX10_tie_J39 fu s 191 a1 t0 r k) (P_X10_tie_191 r0) := by
  refine T_of (fX10_tie_J39.eq_1 ..) ?_
  have u1 := CI_b c (k := 191) (j := 16) bd_191_16
  have u2 := CI_b c (k := 191) (j := 18) bd_191_18
  refine T_ite (fun h3 => ?_) (fun h3 => ?_)
  · exact sj_X10_tie_191_J108 hfu r0 s c f a1 (by omega) (fun s' v1 c' f' w1 pg => hr s' v1 c' f' w1 (by omega)) hk
  · refine T_if1 (by decide +kernel) ?_
    refine T_let 210 (by decide +kernel) ?_
    refine T_leq (fun x4 e5 => ?_)
    have w6 := z_wb e5
    refine T_if1 (by decide +kernel) ?_
    refine T_get (by decide +kernel) (c := 211) (by decide +kernel) bdr_211 (by decide) c (fun x7 e8 b9 w10 => ?_)
    have l11 : z_ln 210 = 201 := by decide +kernel
    refine T_if1 (by decide +kernel) ?_
    refine T_let 210 (by decide +kernel) ?_
    refine T_if1 (by decide +kernel) ?_
    refine T_get (by decide +kernel) (c := 211) (by decide +kernel) bdr_211 (by decide) c (fun x12 e13 b14 w15 => ?_)
    have l16 : z_ln 210 = 201 := by decide +kernel
    refine T_leq (fun x17 e18 => ?_)
    have w19 := z_wb e18
    refine T_if1 (by decide +kernel) ?_
    refine T_let 2 (by decide +kernel) ?_
    refine T_if1 (by decide +kernel) ?_
    refine T_get (by decide +kernel) (c := 3) (by decide +kernel) bdr_3 (by decide) c (fun x20 e21 b22 w23 => ?_)
    have l24 : z_ln 2 = 9 := by decide +kernel
    refine T_ite (fun h25 => ?_) (fun h25 => ?_)
    · exact sj_X10_tie_191_J108 hfu r0 s c f a1 (by omega) (fun s' v1 c' f' w1 pg => hr s' v1 c' f' w1 (by omega)) hk
    · refine T_if1 (by decide +kernel) ?_
      refine T_leq (fun x26 e27 => ?_)
      have u28 := CI_b c (k := 191) (j := 18) bd_191_18
      refine T_leq (fun x29 e30 => ?_)
      have w31 := z_wb e30
      refine T_if1 (by decide +kernel) ?_
      refine T_upg c bd_191_18 (by omega) (fun s32 c33 g35 g36 e37 => ?_)
      have f34 := z_Fr.up (R := R_X10_tie_191) f g35 (by decide)
      have t38 : s32 191 16 = s 191 16 := g36 16 (by decide)
      refine sl_X10_tie_191_L88 hfu r0 a1 t0 (by omega) (by omega) (fun s39 c40 f41 => ?_) fu s32 a1 c33 f34 (by omega) (by omega)
      have u42 := CI_b c40 (k := 191) (j := 16) bd_191_16
      have u43 := CI_b c40 (k := 191) (j := 18) bd_191_18
      exact sj_X10_tie_191_J108 hfu r0 s39 c40 f41 a1 (by omega) (fun s' v1 c' f' w1 pg => hr s' v1 c' f' w1 (by omega)) hk
theorem sl_X10_tie_191_L7 {fu : Nat} (hfu : 8589934592 ≤ fu) (r0 : z_M) {k : z_M → z_O} (hk : ∀ (s' : z_M), z_CI s' → z_Fr R_X10_tie_191 r0 s' → z_T (k s') (P_X10_tie_191 r0)) : ∀ (F : Nat) (s : z_M) (a1 : Int), z_CI s → z_Fr R_X10_tie_191 r0 s → (-2147483648 ≤ a1 ∧ a1 ≤ 2147483647) → (2147483647 - a1 < (F : Int)) → z_T (fX10_tie_L7 fu 191 F s a1 k) (P_X10_tie_191 r0) := by
  intro F
  induction F with
  | zero => intro s a1 c f b1 hm; exfalso; omega
  | succ F ih =>
    intro s a1 c f b1 hm
    refine T_of (fX10_tie_L7.eq_2 ..) ?_
    have u1 := CI_b c (k := 191) (j := 16) bd_191_16
    have u2 := CI_b c (k := 191) (j := 18) bd_191_18
    refine T_if1 (by decide +kernel) ?_
    refine T_leq (fun x3 e4 => ?_)
    have u5 := CI_b c (k := 191) (j := 16) bd_191_16
    refine T_ite (fun h6 => ?_) (fun h6 => ?_)
    · exact hk s c f
    · refine T_if1 (by decide +kernel) ?_
      refine T_let 192 (by decide +kernel) ?_
      refine T_if1 (by decide +kernel) ?_
      refine T_get (by decide +kernel) (c := 193) (by decide +kernel) bdr_193 (by decide) c (fun x7 e8 b9 w10 => ?_)
      have l11 : z_ln 192 = 200 := by decide +kernel
      refine T_ite (fun h12 => ?_) (fun h12 => ?_)
      · exact sj_X10_tie_191_J39 hfu r0 s c f a1 (-1) (by omega) (by omega) (fun s' v1 c' f' w1 pg => ih s' v1 c' f' w1 (by omega)) hk
      · refine T_if1 (by decide +kernel) ?_
        refine T_let 206 (by decide +kernel) ?_
        refine T_if1 (by decide +kernel) ?_
        refine T_get (by decide +kernel) (c := 207) (by decide +kernel) bdr_207 (by decide) c (fun x13 e14 b15 w16 => ?_)
        have l17 : z_ln 206 = 200 := by decide +kernel
        exact sj_X10_tie_191_J39 hfu r0 s c f a1 x13 (by omega) (by omega) (fun s' v1 c' f' w1 pg => ih s' v1 c' f' w1 (by omega)) hk
theorem sf_X10_tie_191 {fu : Nat} (hfu : 8589934592 ≤ fu) (r0 : z_M) (c0 : z_CI r0) : z_T (fX10_tie fu r0 191) (P_X10_tie_191 r0) := by
  refine T_of (fX10_tie.eq_1 ..) ?_
  refine T_if1 (by decide +kernel) ?_
  refine T_upg c0 bd_191_18 (by omega) (fun s1 c2 g4 g5 e6 => ?_)
  have f3 := z_Fr.up (R := R_X10_tie_191) z_Fr.rf g4 (by decide)
  have t7 : s1 191 16 = r0 191 16 := g5 16 (by decide)
  refine sl_X10_tie_191_L7 hfu r0 (fun s8 c9 f10 => ?_) fu s1 0 c2 f3 (by omega) (by omega)
  have u11 := CI_b c9 (k := 191) (j := 16) bd_191_16
  have u12 := CI_b c9 (k := 191) (j := 18) bd_191_18
  exact T_ret ⟨c9, f10, rfl⟩
abbrev R_X10_build_191 (a : Int) : Prop := (191 ≤ a ∧ a ≤ 191) ∨ (193 ≤ a ∧ a ≤ 193) ∨ (195 ≤ a ∧ a ≤ 195) ∨ (197 ≤ a ∧ a ≤ 197) ∨ (199 ≤ a ∧ a ≤ 199) ∨ (201 ≤ a ∧ a ≤ 201) ∨ (203 ≤ a ∧ a ≤ 203) ∨ (205 ≤ a ∧ a ≤ 205) ∨ (207 ≤ a ∧ a ≤ 207) ∨ (209 ≤ a ∧ a ≤ 209) ∨ (211 ≤ a ∧ a ≤ 211) ∨ (213 ≤ a ∧ a ≤ 213) ∨ (215 ≤ a ∧ a ≤ 215) ∨ (217 ≤ a ∧ a ≤ 217) ∨ (219 ≤ a ∧ a ≤ 219)
abbrev P_X10_build_191 (r0 : z_M) : z_V → z_M → Prop := fun v s' => z_CI s' ∧ z_Fr R_X10_build_191 r0 s' ∧ (v = vN)
theorem sl_X10_build_191_L6 {fu : Nat} (hfu : 8589934592 ≤ fu) (r0 : z_M) {k : z_M → z_O} (hk : ∀ (s' : z_M), z_CI s' → z_Fr R_X10_build_191 r0 s' → z_T (k s') (P_X10_build_191 r0)) : ∀ (F : Nat) (s : z_M) (a1 : Int), z_CI s → z_Fr R_X10_build_191 r0 s → (-2147483648 ≤ a1 ∧ a1 ≤ 2147483647) → (2147483647 - a1 < (F : Int)) → z_T (fX10_build_L6 fu 191 F s a1 k) (P_X10_build_191 r0) := by
  intro F
  induction F with
  | zero => intro s a1 c f b1 hm; exfalso; omega
  | succ F ih =>
    intro s a1 c f b1 hm
    refine T_of (fX10_build_L6.eq_2 ..) ?_
    have u1 := CI_b c (k := 191) (j := 16) bd_191_16
    refine T_if1 (by decide +kernel) ?_
    refine T_leq (fun x2 e3 => ?_)
    have u4 := CI_b c (k := 191) (j := 16) bd_191_16
    refine T_ite (fun h5 => ?_) (fun h5 => ?_)
    · exact hk s c f
    · refine T_if1 (by decide +kernel) ?_
      refine T_useN (sf_X10_measureUnit_191 hfu s c a1 (by omega)) (fun v11 s6 hq => ?_)
      obtain ⟨c7, f8, rfl⟩ := hq
      refine T_vN ?_
      have f9 := z_Fr.tr (R := R_X10_build_191) f f8 (fun a h => by unfold R_X10_measureUnit_191 at h; unfold R_X10_build_191; omega)
      have t14 : s6 191 16 = s 191 16 := f8 191 16 (by decide)
      refine T_leq (fun x15 e16 => ?_)
      have w17 := z_wb e16
      exact ih s6 x15 c7 f9 (by omega) (by omega)
theorem sj_X10_build_191_J61 {fu : Nat} (hfu : 8589934592 ≤ fu) (r0 s : z_M) (c : z_CI s) (f : z_Fr R_X10_build_191 r0 s) (a1 : Int) (t1 : Int) (t2 : Int) (b1 : -2147483648 ≤ a1 ∧ a1 ≤ 2147483646) (d1 : -2147483648 ≤ t1 ∧ t1 ≤ 2147483647) (d2 : 0 ≤ t2 ∧ t2 ≤ 1) {r : z_M → Int → z_O} {k : z_M → z_O} (hr : ∀ (s' : z_M) (v1 : Int), z_CI s' → z_Fr R_X10_build_191 r0 s' → (-2147483648 ≤ v1 ∧ v1 ≤ 2147483647) → (a1 < v1) → z_T (r s' v1) (P_X10_build_191 r0)) (hk : ∀ (s' : z_M), z_CI s' → z_Fr R_X10_build_191 r0 s' → z_T (k s') (P_X10_build_191 r0)) : z_T (fX10_build_J61 fu s 191 a1 208 t1 t2 r k) (P_X10_build_191 r0) := by
  refine T_of (fX10_build_J61.eq_1 ..) ?_
  have u1 := CI_b c (k := 191) (j := 16) bd_191_16
  refine T_if1 (by decide +kernel) ?_
  refine T_put (by decide +kernel) (c := 209) (by decide +kernel) bdr_209 (by omega) c (fun s2 e5 c3 g6 => ?_)
  have f4 := z_Fr.up (R := R_X10_build_191) f g6 (by decide)
  have t7 : s2 191 16 = s 191 16 := g6 191 16 (by decide)
  refine T_leq (fun x8 e9 => ?_)
  have w10 := z_wb e9
  exact hr s2 x8 c3 f4 (by omega) (by omega)
theorem sl_X10_build_191_L35 {fu : Nat} (hfu : 8589934592 ≤ fu) (r0 : z_M) {k : z_M → z_O} (hk : ∀ (s' : z_M), z_CI s' → z_Fr R_X10_build_191 r0 s' → z_T (k s') (P_X10_build_191 r0)) : ∀ (F : Nat) (s : z_M) (a1 : Int), z_CI s → z_Fr R_X10_build_191 r0 s → (-2147483648 ≤ a1 ∧ a1 ≤ 2147483647) → (2147483647 - a1 < (F : Int)) → z_T (fX10_build_L35 fu 191 F s a1 k) (P_X10_build_191 r0) := by
  intro F
  induction F with
  | zero => intro s a1 c f b1 hm; exfalso; omega
  | succ F ih =>
    intro s a1 c f b1 hm
    refine T_of (fX10_build_L35.eq_2 ..) ?_
    have u1 := CI_b c (k := 191) (j := 16) bd_191_16
    refine T_if1 (by decide +kernel) ?_
    refine T_leq (fun x2 e3 => ?_)
    have u4 := CI_b c (k := 191) (j := 16) bd_191_16
    refine T_ite (fun h5 => ?_) (fun h5 => ?_)
    · exact hk s c f
    · refine T_if1 (by decide +kernel) ?_
      refine T_let 208 (by decide +kernel) ?_
      refine T_if1 (by decide +kernel) ?_
      refine T_useI (sf_X10_allowsEnd_191 hfu s c a1 (by omega)) (fun v11 s6 hq => ?_)
      obtain ⟨c7, f8, ⟨x10, rfl, b12, b13⟩⟩ := hq
      refine T_vI ?_
      have f9 := z_Fr.tr (R := R_X10_build_191) f f8 (fun a h => absurd h not_false)
      have t14 : s6 191 16 = s 191 16 := f8 191 16 (by decide)
      refine T_ite (fun h15 => ?_) (fun h15 => ?_)
      · exact sj_X10_build_191_J61 hfu r0 s6 c7 f9 a1 a1 0 (by omega) (by omega) (by omega) (fun s' v1 c' f' w1 pg => ih s' v1 c' f' w1 (by omega)) hk
      · exact sj_X10_build_191_J61 hfu r0 s6 c7 f9 a1 a1 1 (by omega) (by omega) (by omega) (fun s' v1 c' f' w1 pg => ih s' v1 c' f' w1 (by omega)) hk
theorem sf_X10_build_191 {fu : Nat} (hfu : 8589934592 ≤ fu) (r0 : z_M) (c0 : z_CI r0) : z_T (fX10_build fu r0 191) (P_X10_build_191 r0) := by
  refine T_of (fX10_build.eq_1 ..) ?_
  refine T_if1 (by decide +kernel) ?_
  refine T_useN (sf_X10_split_191 hfu r0 c0) (fun v6 s1 hq => ?_)
  obtain ⟨c2, f3, rfl⟩ := hq
  refine T_vN ?_
  have f4 := z_Fr.tr (R := R_X10_build_191) z_Fr.rf f3 (fun a h => by unfold R_X10_split_191 at h; unfold R_X10_build_191; omega)
  have u9 := CI_b c2 (k := 191) (j := 16) bd_191_16
  refine sl_X10_build_191_L6 hfu r0 (fun s10 c11 f12 => ?_) fu s1 0 c2 f4 (by omega) (by omega)
  have u13 := CI_b c11 (k := 191) (j := 16) bd_191_16
  refine T_if1 (by decide +kernel) ?_
  refine T_useN (sf_X10_addUp_191 hfu s10 c11) (fun v19 s14 hq => ?_)
  obtain ⟨c15, f16, rfl⟩ := hq
  refine T_vN ?_
  have f17 := z_Fr.tr (R := R_X10_build_191) f12 f16 (fun a h => by unfold R_X10_addUp_191 at h; unfold R_X10_build_191; omega)
  have t22 : s14 191 16 = s10 191 16 := f16 191 16 (by decide)
  refine T_if1 (by decide +kernel) ?_
  refine T_useN (sf_X10_pairUp_191 hfu s14 c15) (fun v28 s23 hq => ?_)
  obtain ⟨c24, f25, rfl⟩ := hq
  refine T_vN ?_
  have f26 := z_Fr.tr (R := R_X10_build_191) f17 f25 (fun a h => by unfold R_X10_pairUp_191 at h; unfold R_X10_build_191; omega)
  have u31 := CI_b c24 (k := 191) (j := 16) bd_191_16
  refine sl_X10_build_191_L35 hfu r0 (fun s32 c33 f34 => ?_) fu s23 0 c24 f26 (by omega) (by omega)
  have u35 := CI_b c33 (k := 191) (j := 16) bd_191_16
  refine T_if1 (by decide +kernel) ?_
  refine T_useN (sf_X10_tie_191 hfu s32 c33) (fun v41 s36 hq => ?_)
  obtain ⟨c37, f38, rfl⟩ := hq
  refine T_vN ?_
  have f39 := z_Fr.tr (R := R_X10_build_191) f34 f38 (fun a h => by unfold R_X10_tie_191 at h; unfold R_X10_build_191; omega)
  have u44 := CI_b c37 (k := 191) (j := 16) bd_191_16
  exact T_ret ⟨c37, f39, rfl⟩
