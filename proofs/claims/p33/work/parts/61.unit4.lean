/-! UNITS of the class: build as a whole -/
/-- partners: opens with later closes -/
theorem y_pt_ok {K : Int → Int} : ∀ (n : Nat) (x : Int), y_pt K n x ≠ -1 → (0 ≤ x ∧ x < n ∧ 0 ≤ y_pt K n x ∧ y_pt K n x < n) ∧ y_pt K n (y_pt K n x) = x ∧ ((K x = 4 ∧ x < y_pt K n x ∧ K (y_pt K n x) = 5) ∨ (K x = 5 ∧ y_pt K n x < x ∧ K (y_pt K n x) = 4)) := by
  intro n
  induction n with
  | zero => intro x h; exact absurd rfl h
  | succ n ih =>
    intro x
    have b := y_lo_b (K := K) (p := y_pt K n) n
    obtain ⟨lo, hlo⟩ : ∃ lo, y_lo K (y_pt K n) n = lo := ⟨_, rfl⟩
    have e : y_pt K (n + 1) = if K n = 5 ∧ y_lo K (y_pt K n) n ≠ -1 then (fun x : Int => if x = n then y_lo K (y_pt K n) n else if x = y_lo K (y_pt K n) n then (n : Int) else y_pt K n x) else y_pt K n := rfl
    by_cases q : K n = 5 ∧ y_lo K (y_pt K n) n ≠ -1
    · have l4 := y_lo_4 n q.2
      rw [if_pos q, hlo] at e
      rw [hlo] at b q l4
      have ev : ∀ y : Int, y_pt K (n + 1) y = if y = n then lo else if y = lo then (n : Int) else y_pt K n y := fun y => by rw [e]
      have en : y_pt K (n + 1) n = lo := by rw [ev, if_pos rfl]
      have el : y_pt K (n + 1) lo = n := by rw [ev, if_neg (by omega), if_pos rfl]
      intro h
      by_cases z : x = n
      · subst z
        rw [en, el]
        exact ⟨by omega, rfl, Or.inr ⟨q.1, by omega, l4.1⟩⟩
      · by_cases z2 : x = lo
        · subst z2
          rw [el, en]
          exact ⟨by omega, rfl, Or.inl ⟨l4.1, by omega, q.1⟩⟩
        · have ex : y_pt K (n + 1) x = y_pt K n x := by rw [ev, if_neg z, if_neg z2]
          rw [ex] at h ⊢
          obtain ⟨c1, c2, c3⟩ := ih x h
          have ey : y_pt K (n + 1) (y_pt K n x) = y_pt K n (y_pt K n x) := by
            rw [ev, if_neg (by omega), if_neg]
            intro w
            rw [w, l4.2] at c2
            omega
          rw [ey]
          exact ⟨by omega, c2, c3⟩
    · rw [if_neg q] at e
      rw [e]
      intro h
      obtain ⟨c1, c2, c3⟩ := ih x h
      exact ⟨by omega, c2, c3⟩
def y_B0 (s : z_M) : Prop := s 211 0 = 0 ∧ s 213 0 = 0
/-- the first sign of a text begins a unit -/
def y_TOK (s : z_M) : Prop := s 6 6 = 0 ∨ y_sC s 0 = 1
/-- a unit's rows -/
def y_MR (s : z_M) (u : Int) : Prop := s 199 u = y_wd s u ∧ s 201 u = s 12 (s 195 u) ∧ s 203 u = s 16 (s 195 u) % 16 ∧ s 205 u = s 18 (s 195 u) % 16 ∧
  ∀ i : Int, s 195 u ≤ i → i < s 195 u + s 197 u → s 217 i = y_one1 (y_ac s u) (s 193 u) (s 8 i) ∧ s 219 i = y_tn s (s 193 u) (y_ac s u)
/-- all rows of units -/
def y_UDc (s : z_M) : Prop := (∀ u : Int, 0 ≤ u → u < s 191 16 → y_MR s u) ∧
  (∀ v : Int, 0 ≤ v → v ≤ s 191 16 → s 211 v = y_sum (s 199) 0 v.toNat ∧ s 213 v = y_sum (y_fl s) 0 v.toNat) ∧
  ((∀ x : Int, 0 ≤ x → x < s 191 16 → s 207 x = y_pt (s 193) (s 191 16).toNat x) ∧ s 191 17 = y_pc (s 193) (s 191 16).toNat) ∧
  (∀ x : Int, 0 ≤ x → x < s 191 16 → (y_in s (s 191 16) x ∧ s 209 x = 0) ∨ (¬ y_in s (s 191 16) x ∧ s 209 x = y_ae s x)) ∧ s 191 18 = y_tc (y_tp s) (s 191 16).toNat
def y_UD (s : z_M) : Prop := y_TOK s → y_UDc s
def y_UE (s s' : z_M) : Prop := (s' 191 16 = s 191 16 ∧ s' 191 17 = s 191 17 ∧ s' 191 18 = s 191 18) ∧ (s' 3 1 = s 3 1 ∧ s' 3 5 = s 3 5 ∧ s' 3 7 = s 3 7) ∧ ∀ a : Int, (a = 8 ∨ a = 12 ∨ a = 16 ∨ a = 18 ∨ a = 193 ∨ a = 195 ∨ a = 197 ∨ a = 199 ∨ a = 201 ∨ a = 203 ∨ a = 205 ∨ a = 207 ∨ a = 209 ∨ a = 211 ∨ a = 213 ∨ a = 217 ∨ a = 219) → s' a = s a
theorem y_UDc.eq {s s' : z_M} (e : y_UE s s') (h : y_UDc s) : y_UDc s' := by
  obtain ⟨⟨e1, e2, e3⟩, ⟨t1, t5, t7⟩, k⟩ := e
  have k8 := k 8 (by decide)
  have k12 := k 12 (by decide)
  have k16 := k 16 (by decide)
  have k18 := k 18 (by decide)
  have k193 := k 193 (by decide)
  have k195 := k 195 (by decide)
  have k197 := k 197 (by decide)
  have k199 := k 199 (by decide)
  have k201 := k 201 (by decide)
  have k203 := k 203 (by decide)
  have k205 := k 205 (by decide)
  have k207 := k 207 (by decide)
  have k209 := k 209 (by decide)
  have k211 := k 211 (by decide)
  have k213 := k 213 (by decide)
  have k217 := k 217 (by decide)
  have k219 := k 219 (by decide)
  have a1 : y_ac s' = y_ac s := funext fun u => by unfold y_ac; rw [k193, t5, t1, k197]
  have a2 : y_wd s' = y_wd s := funext fun u => by unfold y_wd; rw [a1, k193, k8, k195, k197]
  have a3 : y_tn s' = y_tn s := funext fun u => funext fun v => by unfold y_tn; rw [t5]
  have a4 : y_fl s' = y_fl s := funext fun u => by unfold y_fl; rw [k193, k199]
  have a5 : y_TP s' = y_TP s := funext fun u => by unfold y_TP; rw [k193, k207, k211, t7]
  have a6 : y_in s' = y_in s := funext fun m => funext fun v => by unfold y_in; rw [a5, k207]
  have a7 : y_tp s' = y_tp s := funext fun u => by unfold y_tp; rw [k193, k207, k211, t7]
  have a8 : y_ae s' = y_ae s := funext fun u => by unfold y_ae; rw [e1, k193]
  have a9 : y_MR s' = y_MR s := funext fun u => by unfold y_MR; rw [k199, a2, k201, k12, k195, k203, k16, k205, k18, k197, k217, a1, k193, k8, k219, a3]
  unfold y_UDc
  rw [a9, e1, e2, e3, k211, k199, k213, a4, k207, k193, a6, k209, a8, a7]
  exact h
theorem y_TOK.eq {s s' : z_M} (e6 : s' 6 6 = s 6 6) (k8 : ∀ b, s' 8 b = s 8 b) (k12 : ∀ b, s' 12 b = s 12 b) (k14 : ∀ b, s' 14 b = s 14 b) : y_TOK s' ↔ y_TOK s := by
  unfold y_TOK
  rw [e6, y_sC_cg k8 k12 k14]
theorem y_UD.fr {s s' : z_M} (h : y_UD s) (e0 : s' 6 6 = s 6 6) (e1 : s' 191 16 = s 191 16) (e2 : s' 191 17 = s 191 17) (e3 : s' 191 18 = s 191 18) (k3 : ∀ b, s' 3 b = s 3 b) (k8 : ∀ b, s' 8 b = s 8 b) (k12 : ∀ b, s' 12 b = s 12 b) (k14 : ∀ b, s' 14 b = s 14 b) (k16 : ∀ b, s' 16 b = s 16 b) (k18 : ∀ b, s' 18 b = s 18 b) (kk : ∀ a b : Int, 193 ≤ a ∧ a ≤ 219 → s' a b = s a b) : y_UD s' := fun t => by
  refine (h ((y_TOK.eq e0 k8 k12 k14).mp t)).eq ⟨⟨e1, e2, e3⟩, ⟨k3 1, k3 5, k3 7⟩, fun a q => ?_⟩
  rcases q with rfl | rfl | rfl | rfl | q
  · exact funext k8
  · exact funext k12
  · exact funext k16
  · exact funext k18
  · exact funext fun b => kk a b (by omega)
/-- index 0 of the sums is never written -/
theorem b0_addUpL {fu : Nat} {s0 : z_M} {k : z_M → z_O} {P : z_V → z_M → Prop} (hn : 0 ≤ s0 191 16 ∧ s0 191 16 ≤ 200) (hk : ∀ s' : z_M, s' 211 0 = s0 211 0 ∧ s' 213 0 = s0 213 0 → z_T (k s') P) :
    ∀ (m F : Nat) (s : z_M) (u : Int), (m : Int) = s0 191 16 - u → m < F → 0 ≤ u → (∀ a b : Int, a ≠ 211 → a ≠ 213 → s a b = s0 a b) → s 211 0 = s0 211 0 ∧ s 213 0 = s0 213 0 → z_T (fX10_addUp_L2 fu 191 F s u k) P := by
  intro m
  induction m with
  | zero =>
    intro F s u h1 h2 h3 h4 h5
    obtain ⟨F, rfl⟩ : ∃ F2, F = F2 + 1 := ⟨F - 1, by omega⟩
    refine T_of (fX10_addUp_L2.eq_2 ..) ?_
    refine T_if1 v_ob191 ?_
    refine T_let (s0 191 16) (h4 _ _ (by decide) (by decide)) ?_
    refine T_if1 (by omega) ?_
    exact hk s h5
  | succ m ih =>
    intro F s u h1 h2 h3 h4 h5
    obtain ⟨F, rfl⟩ : ∃ F2, F = F2 + 1 := ⟨F - 1, by omega⟩
    have hu : 0 ≤ u ∧ u < 200 := by omega
    have hu1 : 0 ≤ u ∧ u < 201 := by omega
    have h2' : 0 ≤ u + 1 ∧ u + 1 < 201 := by omega
    have e99 : ∀ (t : z_M) (x y : Int) (r : z_M → Int → z_O), fX10_addUp_J99 fu t 191 u 212 (u + 1) x y r k = r (z_up t 213 (u + 1) (z_w (x + y))) (u + 1) := fun t x y r => by
      unfold fX10_addUp_J99
      simp only [z_let, if_pos v_r212.1.1, e_put v_r212.1, zb_N, v_rpn v_r212.2.1 v_r212.2.2 h2', z_wid (show z_I (u + 1) by unfold z_I; omega)]
    have go : ∀ t : Int, z_T (fX10_addUp_J40 fu s 191 u t (fun w v1 => fX10_addUp_L2 fu 191 F w v1 k) k) P := fun t => by
      have step : ∀ x y : Int, z_T (fX10_addUp_L2 fu 191 F (z_up (z_up s 211 (u + 1) x) 213 (u + 1) y) (u + 1) k) P := fun x y => by
        refine ih F _ (u + 1) (by omega) (by omega) (by omega) (fun a b p q => by rw [z_up_k q, z_up_k p]; exact h4 a b p q) ⟨?_, ?_⟩
        · rw [z_up_k (by decide), z_up_j (by omega)]; exact h5.1
        · rw [z_up_j (by omega), z_up_k (by decide)]; exact h5.2
      unfold fX10_addUp_J40
      simp only [z_let, if_pos v_ob191, v_u11, v_u12, v_u5, z_wid (show z_I (u + 1) by unfold z_I; omega), if_pos v_r210.1.1, if_pos v_r212.1.1, if_pos v_r198.1.1, e_get v_r210.1, e_get v_r212.1, e_get v_r198.1, e_put v_r210.1, zb_I, zb_N, v_rgn v_r210.2.1 v_r210.2.2 hu1, v_rg v_r198.2.1 v_r198.2.2 hu, v_rpn v_r210.2.1 v_r210.2.2 h2', v_rgn v_r212.2.1 v_r212.2.2 hu1, e99]
      split
      · exact step _ _
      · exact step _ _
    refine T_of (fX10_addUp_L2.eq_2 ..) ?_
    refine T_if1 v_ob191 ?_
    refine T_let (s0 191 16) (h4 _ _ (by decide) (by decide)) ?_
    refine T_if0 (by omega) ?_
    refine T_if1 v_ob191 ?_
    refine T_let 192 v_g2 ?_
    refine T_if1 v_rw192.1 ?_
    refine T_bI (T_of (e_get v_rw192) (T_rI ?_))
    refine T_ite (fun q => ?_) (fun q => ?_)
    · exact T_of (fX10_addUp_J35.eq_1 ..) (go 1)
    · refine T_if1 v_ob191 ?_
      refine T_let 192 v_g2 ?_
      refine T_if1 v_rw192.1 ?_
      refine T_bI (T_of (e_get v_rw192) (T_rI ?_))
      refine T_ite (fun q2 => ?_) (fun q2 => ?_)
      · exact go 0
      · exact T_of (fX10_addUp_J35.eq_1 ..) (go 1)
theorem b0_addUp {fu : Nat} (hfu : 8589934592 ≤ fu) {s : z_M} (hn : 0 ≤ s 191 16 ∧ s 191 16 ≤ 200) : z_T (fX10_addUp fu s 191) (fun _ s' => s' 211 0 = s 211 0 ∧ s' 213 0 = s 213 0) := by
  refine T_of (fX10_addUp.eq_1 ..) ?_
  exact b0_addUpL (s0 := s) hn (fun s' g => T_ret g) (s 191 16).toNat fu s 0 (by omega) (by omega) (Int.le_refl _) (fun _ _ _ _ => rfl) ⟨rfl, rfl⟩
theorem bd_209q (j : Int) : z_bd 209 j = (-2147483648, 2147483647) := bdr_209 j
theorem bd_191_16q : z_bd 191 16 = (0, 200) := by decide +kernel
/-- the first loop of build, safety alone -/
theorem b0_L6 {fu : Nat} (hfu : 8589934592 ≤ fu) {s0 : z_M} {k : z_M → z_O} {P : z_V → z_M → Prop} (hn : 0 ≤ s0 191 16 ∧ s0 191 16 ≤ 200) (hk : ∀ s' : z_M, z_CI s' → z_Fr R_X10_measureUnit_191 s0 s' → z_T (k s') P) :
    ∀ (m F : Nat) (s : z_M) (u : Int), (m : Int) = s0 191 16 - u → m < F → 0 ≤ u → z_CI s → z_Fr R_X10_measureUnit_191 s0 s → z_T (fX10_build_L6 fu 191 F s u k) P := by
  intro m
  induction m with
  | zero =>
    intro F s u h1 h2 h3 h4 h5
    obtain ⟨F, rfl⟩ : ∃ F2, F = F2 + 1 := ⟨F - 1, by omega⟩
    refine T_of (fX10_build_L6.eq_2 ..) ?_
    refine T_if1 v_ob191 ?_
    refine T_let (s0 191 16) (h5 191 16 (by unfold R_X10_measureUnit_191; omega)) ?_
    refine T_if1 (by omega) ?_
    exact hk s h4 h5
  | succ m ih =>
    intro F s u h1 h2 h3 h4 h5
    obtain ⟨F, rfl⟩ : ∃ F2, F = F2 + 1 := ⟨F - 1, by omega⟩
    refine T_of (fX10_build_L6.eq_2 ..) ?_
    refine T_if1 v_ob191 ?_
    refine T_let (s0 191 16) (h5 191 16 (by unfold R_X10_measureUnit_191; omega)) ?_
    refine T_if0 (by omega) ?_
    refine T_if1 v_ob191 ?_
    refine T_useN (sf_X10_measureUnit_191 hfu s h4 u (by omega)) (fun v s1 hq => ?_)
    obtain ⟨c1, f1, rfl⟩ := hq
    refine T_vN ?_
    refine T_let (u + 1) (z_wid (by unfold z_I; omega)) ?_
    exact ih F s1 (u + 1) (by omega) (by omega) (by omega) c1 (fun a b q => (f1 a b q).trans (h5 a b q))
theorem b0_L35 {fu : Nat} {s0 : z_M} {k : z_M → z_O} {P : z_V → z_M → Prop} (hn : 0 ≤ s0 191 16 ∧ s0 191 16 ≤ 200) (hk : ∀ s' : z_M, z_CI s' → (∀ a b : Int, a ≠ 209 → s' a b = s0 a b) → z_T (k s') P) :
    ∀ (m F : Nat) (s : z_M) (u : Int), (m : Int) = s0 191 16 - u → m < F → 0 ≤ u → z_CI s → (∀ a b : Int, a ≠ 209 → s a b = s0 a b) → z_T (fX10_build_L35 fu 191 F s u k) P := by
  intro m
  induction m with
  | zero =>
    intro F s u h1 h2 h3 h4 h5
    obtain ⟨F, rfl⟩ : ∃ F2, F = F2 + 1 := ⟨F - 1, by omega⟩
    refine T_of (fX10_build_L35.eq_2 ..) ?_
    refine T_if1 v_ob191 ?_
    refine T_let (s0 191 16) (h5 _ _ (by decide)) ?_
    refine T_if1 (by omega) ?_
    exact hk s h4 h5
  | succ m ih =>
    intro F s u h1 h2 h3 h4 h5
    obtain ⟨F, rfl⟩ : ∃ F2, F = F2 + 1 := ⟨F - 1, by omega⟩
    have hu : 0 ≤ u ∧ u < 200 := by omega
    have en : s 191 16 = s0 191 16 := h5 _ _ (by decide)
    have go : ∀ t : Int, (t = 0 ∨ t = 1) → z_T (fX10_build_J61 fu s 191 u 208 u t (fun w v1 => fX10_build_L35 fu 191 F w v1 k) k) P := fun t ht => by
      refine T_of (fX10_build_J61.eq_1 ..) ?_
      refine T_if1 v_r208.1.1 ?_
      refine T_bN (T_of ((e_put v_r208.1).trans (by rw [v_rp v_r208.2.1 v_r208.2.2 hu])) (T_rN ?_))
      refine T_let (u + 1) (z_wid (by unfold z_I; omega)) ?_
      refine ih F _ (u + 1) (by omega) (by omega) (by omega) (CI_up h4 (bd_209q u) (by omega)) (fun a b p => by rw [z_up_k p]; exact h5 a b p)
    refine T_of (fX10_build_L35.eq_2 ..) ?_
    refine T_if1 v_ob191 ?_
    refine T_let (s0 191 16) en ?_
    refine T_if0 (by omega) ?_
    refine T_if1 v_ob191 ?_
    refine T_let 208 v_u10 ?_
    refine T_if1 v_ob191 ?_
    refine T_bI (T_of (e_allowsEnd (by omega) hu) (T_rI ?_))
    refine T_ite (fun _ => ?_) (fun _ => ?_)
    · exact go 0 (Or.inl rfl)
    · exact go 1 (Or.inr rfl)
theorem b0_build {fu : Nat} (hfu : 8589934592 ≤ fu) {s : z_M} (c : z_CI s) (h0 : y_B0 s) : z_T (fX10_build fu s 191) (fun _ s' => y_B0 s') := by
  refine T_of (fX10_build.eq_1 ..) ?_
  refine T_if1 v_ob191 ?_
  refine T_useN (sf_X10_split_191 hfu s c) (fun v s1 hq => ?_)
  obtain ⟨c1, f1, _, rfl⟩ := hq
  refine T_vN ?_
  have b1 : y_B0 s1 := ⟨(f1 211 0 (by unfold R_X10_split_191; omega)).trans h0.1, (f1 213 0 (by unfold R_X10_split_191; omega)).trans h0.2⟩
  have n1 := CI_b c1 (k := 191) (j := 16) bd_191_16q
  refine b0_L6 hfu (s0 := s1) n1 (fun s2 c2 f2 => ?_) (s1 191 16).toNat fu s1 0 (by omega) (by omega) (Int.le_refl _) c1 z_Fr.rf
  have b2 : y_B0 s2 := ⟨(f2 211 0 (by unfold R_X10_measureUnit_191; omega)).trans b1.1, (f2 213 0 (by unfold R_X10_measureUnit_191; omega)).trans b1.2⟩
  have n2 := CI_b c2 (k := 191) (j := 16) bd_191_16q
  refine T_if1 v_ob191 ?_
  refine T_useN (T_and (sf_X10_addUp_191 hfu s2 c2) (b0_addUp hfu n2)) (fun v s3 hq => ?_)
  obtain ⟨⟨c3, f3, rfl⟩, g1, g2⟩ := hq
  refine T_vN ?_
  have b3 : y_B0 s3 := ⟨g1.trans b2.1, g2.trans b2.2⟩
  refine T_if1 v_ob191 ?_
  refine T_useN (sf_X10_pairUp_191 hfu s3 c3) (fun v s4 hq => ?_)
  obtain ⟨c4, f4, rfl⟩ := hq
  refine T_vN ?_
  have b4 : y_B0 s4 := ⟨(f4 211 0 (by unfold R_X10_pairUp_191; omega)).trans b3.1, (f4 213 0 (by unfold R_X10_pairUp_191; omega)).trans b3.2⟩
  have n4 := CI_b c4 (k := 191) (j := 16) bd_191_16q
  refine b0_L35 (s0 := s4) n4 (fun s5 c5 f5 => ?_) (s4 191 16).toNat fu s4 0 (by omega) (by omega) (Int.le_refl _) c4 (fun _ _ _ => rfl)
  have b5 : y_B0 s5 := ⟨(f5 211 0 (by decide)).trans b4.1, (f5 213 0 (by decide)).trans b4.2⟩
  refine T_if1 v_ob191 ?_
  refine T_useN (sf_X10_tie_191 hfu s5 c5) (fun v s6 hq => ?_)
  obtain ⟨c6, f6, rfl⟩ := hq
  refine T_vN ?_
  exact T_ret ⟨(f6 211 0 (by unfold R_X10_tie_191; omega)).trans b5.1, (f6 213 0 (by unfold R_X10_tie_191; omega)).trans b5.2⟩
/-- the first loop of build: the units' rows -/
theorem e_measL {fu : Nat} (hfu : 8589934592 ≤ fu) {n N : Int} {s0 : z_M} {k : z_M → z_O} {P : z_V → z_M → Prop} (hn : 0 ≤ n ∧ n ≤ 200) (en : s0 191 16 = n) (hN : N ≤ 200) (hp : ∀ u : Int, 0 ≤ u → u < n → 0 ≤ s0 195 u ∧ 1 ≤ s0 197 u ∧ s0 195 u + s0 197 u ≤ N ∧ ∀ v : Int, u < v → v < n → s0 195 u + s0 197 u ≤ s0 195 v)
    (hk : ∀ s' : z_M, (∀ u : Int, 0 ≤ u → u < n → y_MR s' u) → (∀ a b : Int, a ≠ 199 → a ≠ 201 → a ≠ 203 → a ≠ 205 → a ≠ 217 → a ≠ 219 → s' a b = s0 a b) → z_T (k s') P) :
    ∀ (m F : Nat) (s : z_M) (u : Int), (m : Int) = n - u → m < F → 0 ≤ u → (∀ v : Int, 0 ≤ v → v < u → y_MR s v) → (∀ a b : Int, a ≠ 199 → a ≠ 201 → a ≠ 203 → a ≠ 205 → a ≠ 217 → a ≠ 219 → s a b = s0 a b) → z_T (fX10_build_L6 fu 191 F s u k) P := by
  intro m
  induction m with
  | zero =>
    intro F s u h1 h2 h3 h4 h5
    obtain ⟨F, rfl⟩ : ∃ F2, F = F2 + 1 := ⟨F - 1, by omega⟩
    refine T_of (fX10_build_L6.eq_2 ..) ?_
    refine T_if1 v_ob191 ?_
    refine T_let n ((h5 191 16 (by decide) (by decide) (by decide) (by decide) (by decide) (by decide)).trans en) ?_
    refine T_if1 (by omega) ?_
    exact hk s (fun v p q => h4 v p (by omega)) h5
  | succ m ih =>
    intro F s u h1 h2 h3 h4 h5
    obtain ⟨F, rfl⟩ : ∃ F2, F = F2 + 1 := ⟨F - 1, by omega⟩
    have k195 : ∀ b, s 195 b = s0 195 b := fun b => h5 _ _ (by decide) (by decide) (by decide) (by decide) (by decide) (by decide)
    have k197 : ∀ b, s 197 b = s0 197 b := fun b => h5 _ _ (by decide) (by decide) (by decide) (by decide) (by decide) (by decide)
    have pu := hp u h3 (by omega)
    refine T_of (fX10_build_L6.eq_2 ..) ?_
    refine T_if1 v_ob191 ?_
    refine T_let n ((h5 191 16 (by decide) (by decide) (by decide) (by decide) (by decide) (by decide)).trans en) ?_
    refine T_if0 (by omega) ?_
    refine T_if1 v_ob191 ?_
    refine T_useN (e_measureUnit hfu (s := s) (u := u) ⟨h3, by omega⟩ (by rw [k195, k197]; omega)) (fun v s1 hq => ?_)
    obtain ⟨rfl, m1, m2, m3, m4, m5, m6⟩ := hq
    refine T_vN ?_
    refine T_let (u + 1) (z_wid (by unfold z_I; omega)) ?_
    have fr : ∀ a b : Int, a ≠ 199 → a ≠ 201 → a ≠ 203 → a ≠ 205 → a ≠ 217 → a ≠ 219 → s1 a b = s a b := fun a b q1 q2 q3 q4 q5 q6 => m6 a b (by omega) (by omega)
    have f3 : s1 3 = s 3 := funext fun b => fr _ _ (by decide) (by decide) (by decide) (by decide) (by decide) (by decide)
    have f8 : s1 8 = s 8 := funext fun b => fr _ _ (by decide) (by decide) (by decide) (by decide) (by decide) (by decide)
    have f12 : s1 12 = s 12 := funext fun b => fr _ _ (by decide) (by decide) (by decide) (by decide) (by decide) (by decide)
    have f16 : s1 16 = s 16 := funext fun b => fr _ _ (by decide) (by decide) (by decide) (by decide) (by decide) (by decide)
    have f18 : s1 18 = s 18 := funext fun b => fr _ _ (by decide) (by decide) (by decide) (by decide) (by decide) (by decide)
    have f193 : s1 193 = s 193 := funext fun b => fr _ _ (by decide) (by decide) (by decide) (by decide) (by decide) (by decide)
    have f195 : s1 195 = s 195 := funext fun b => fr _ _ (by decide) (by decide) (by decide) (by decide) (by decide) (by decide)
    have f197 : s1 197 = s 197 := funext fun b => fr _ _ (by decide) (by decide) (by decide) (by decide) (by decide) (by decide)
    have a1 : y_ac s1 = y_ac s := funext fun u => by unfold y_ac; rw [f193, f3, f197]
    have a2 : y_wd s1 = y_wd s := funext fun u => by unfold y_wd; rw [a1, f193, f8, f195, f197]
    have a3 : y_tn s1 = y_tn s := funext fun u => funext fun v => by unfold y_tn; rw [f3]
    refine ih F s1 (u + 1) (by omega) (by omega) (by omega) (fun v p q => ?_) (fun a b q1 q2 q3 q4 q5 q6 => (fr a b q1 q2 q3 q4 q5 q6).trans (h5 a b q1 q2 q3 q4 q5 q6))
    unfold y_MR
    rw [a1, a2, a3, f12, f16, f18, f193, f195, f197, f8]
    by_cases z : v = u
    · subst z
      exact ⟨m1, m2, m3, m4, m5⟩
    · have w := h4 v p (by omega)
      have pv := hp v p (by omega)
      have lt := pv.2.2.2 u (by omega) (by omega)
      rw [m6 199 v (by omega) (by omega), m6 201 v (by omega) (by omega), m6 203 v (by omega) (by omega), m6 205 v (by omega) (by omega)]
      refine ⟨w.1, w.2.1, w.2.2.1, w.2.2.2.1, fun i a b => ?_⟩
      rw [k195] at a b
      rw [k197] at b
      rw [m6 217 i (by omega) (by rw [k195, k197]; omega), m6 219 i (by omega) (by rw [k195, k197]; omega)]
      exact w.2.2.2.2 i (by rw [k195]; exact a) (by rw [k195, k197]; exact b)
theorem y_PT_pos {st K f z k u : Int → Int} {c : Int} {n : Nat} (h : y_PT st K f z k u c n) (h01 : y_01 st) {v : Int} (h0 : 0 ≤ v) (h1 : v < c) : 0 ≤ f v ∧ 1 ≤ z v ∧ f v + z v ≤ n ∧ ∀ w : Int, v < w → w < c → f v + z v ≤ f w := by
  obtain ⟨j, b1, b2, b3, b4, b5⟩ := h.at h01 h0 h1
  obtain ⟨m, a1, a2, a3, a4, a5⟩ := h.to h01 h0 h1
  refine ⟨by omega, by omega, by omega, fun w p q => ?_⟩
  have e := h.2.2.2 v h0 h1
  rw [if_pos (by omega)] at e
  rw [e]
  exact h.le h01 (by omega) (by omega) q
/-- build tells all rows of units -/
theorem e_build {fu : Nat} (hfu : 8589934592 ≤ fu) {s : z_M} (c : z_CI s) (hT : y_TOK s) (h0 : y_B0 s) : z_T (fX10_build fu s 191) (fun _ s' => y_UDc s') := by
  have hn6 := CI_b c (k := 6) (j := 6) bd_6_6
  refine T_of (fX10_build.eq_1 ..) ?_
  refine T_if1 v_ob191 ?_
  refine T_useN (T_and (sf_X10_split_191 hfu s c) (e_split hfu hn6 hT)) (fun v s1 hq => ?_)
  obtain ⟨⟨c1, f1, _, rfl⟩, p1⟩ := hq
  refine T_vN ?_
  have b1 : y_B0 s1 := ⟨(f1 211 0 (by unfold R_X10_split_191; omega)).trans h0.1, (f1 213 0 (by unfold R_X10_split_191; omega)).trans h0.2⟩
  have n1 := CI_b c1 (k := 191) (j := 16) bd_191_16q
  have n6 := CI_b c1 (k := 6) (j := 6) bd_6_6
  refine e_measL hfu (n := s1 191 16) (N := s1 6 6) (s0 := s1) n1 rfl n6.2 (fun u p q => ?_) (fun s2 g1 g2 => ?_) (s1 191 16).toNat fu s1 0 (by omega) (by omega) (Int.le_refl _) (fun v p q => by omega) (fun _ _ _ _ _ _ _ _ => rfl)
  · have w := y_PT_pos p1.2 y_sC_01 p q
    rw [show (((s1 6 6).toNat : Nat) : Int) = s1 6 6 by omega] at w
    exact w
  have e16 : s2 191 16 = s1 191 16 := g2 _ _ (by decide) (by decide) (by decide) (by decide) (by decide) (by decide)
  have b2 : y_B0 s2 := ⟨(g2 _ _ (by decide) (by decide) (by decide) (by decide) (by decide) (by decide)).trans b1.1, (g2 _ _ (by decide) (by decide) (by decide) (by decide) (by decide) (by decide)).trans b1.2⟩
  have wb : ∀ v : Int, 0 ≤ v → v < s2 191 16 → 1 ≤ s2 199 v ∧ s2 199 v ≤ 2400 := fun v p q => by
    have w := (g1 v p (by omega)).1
    have k197 : s2 197 v = s1 197 v := g2 _ _ (by decide) (by decide) (by decide) (by decide) (by decide) (by decide)
    have pp := y_PT_pos p1.2 y_sC_01 p (by omega : v < s1 191 16)
    rw [w]
    unfold y_wd
    rcases y_ac_01 (s := s2) (u := v) with q1 | q1
    · rw [if_pos q1]
      have sb := y_sum_b (f := fun i => y_sl (s2 193 v) (s2 8 i)) (a := s2 195 v) (fun i => by have := y_sl_b (k := s2 193 v) (c := s2 8 i); exact ⟨by omega, this.2⟩) (s2 197 v).toNat
      obtain ⟨m, hm⟩ : ∃ m, (s2 197 v).toNat = m + 1 := ⟨(s2 197 v).toNat - 1, by omega⟩
      have sb2 := y_sum_b (f := fun i => y_sl (s2 193 v) (s2 8 i)) (a := s2 195 v) (fun i => by have := y_sl_b (k := s2 193 v) (c := s2 8 i); exact ⟨by omega, this.2⟩) m
      have l := y_sl_b (k := s2 193 v) (c := s2 8 (s2 195 v + m))
      have e : y_sum (fun i => y_sl (s2 193 v) (s2 8 i)) (s2 195 v) (m + 1) = y_sum (fun i => y_sl (s2 193 v) (s2 8 i)) (s2 195 v) m + y_sl (s2 193 v) (s2 8 (s2 195 v + m)) := rfl
      have : (s2 197 v).toNat ≤ 200 := by omega
      rw [hm] at sb ⊢
      omega
    · rw [if_neg (by omega)]; omega
  refine T_if1 v_ob191 ?_
  refine T_useN (e_addUp hfu (s := s2) (by omega) (fun v p q => by have := wb v p q; omega) b2) (fun v s3 hq => ?_)
  obtain ⟨rfl, a1, a2⟩ := hq
  refine T_vN ?_
  have e16' : s3 191 16 = s2 191 16 := a2 _ _ (by decide) (by decide)
  refine T_if1 v_ob191 ?_
  refine T_useN (e_pairUp hfu (s := s3) (by omega)) (fun v s4 hq => ?_)
  obtain ⟨rfl, r1, r2, r3⟩ := hq
  refine T_vN ?_
  have e16'' : s4 191 16 = s3 191 16 := r3 _ _ (by decide) (by decide)
  refine e_endsL (n := s4 191 16) (s0 := s4) (by omega) (fun s5 d1 d2 => ?_) (s4 191 16).toNat fu s4 0 (by omega) (by omega) (Int.le_refl _) rfl (fun x p q => by omega) (fun _ _ _ => rfl)
  have e5 : s5 191 16 = s4 191 16 := d2 _ _ (by decide)
  refine T_if1 v_ob191 ?_
  have sb : ∀ v : Nat, (v : Int) ≤ s2 191 16 → 0 ≤ y_sum (s2 199) 0 v ∧ y_sum (s2 199) 0 v ≤ 2400 * v := by
    intro v
    induction v with
    | zero => intro _; exact ⟨Int.le_refl 0, Int.le_refl 0⟩
    | succ v ih =>
      intro h
      have a := ih (by omega)
      have w := wb (0 + v) (by omega) (by omega)
      show 0 ≤ y_sum (s2 199) 0 v + s2 199 (0 + v) ∧ y_sum (s2 199) 0 v + s2 199 (0 + v) ≤ 2400 * ((v + 1 : Nat) : Int)
      omega
  have k5 : ∀ a : Int, a ≠ 207 → a ≠ 209 → a ≠ 191 → a ≠ 211 → a ≠ 213 → s5 a = s2 a := fun a q1 q2 q3 q4 q5 => funext fun b => by
    rw [d2 a b q2, r3 a b q1 (by omega), a2 a b q4 q5]
  have p207 : ∀ u : Int, 0 ≤ u → u < s5 191 16 → s5 207 u = y_pt (s5 193) (s5 191 16).toNat u := fun u p q => by
    rw [k5 193 (by decide) (by decide) (by decide) (by decide) (by decide), d2 207 u (by decide), e5, e16'', r1 u p (by omega)]
    rw [show s3 193 = s2 193 from funext fun b => a2 _ _ (by decide) (by decide)]
  have b211 : ∀ v : Int, 0 ≤ v → v ≤ s5 191 16 → s5 211 v = y_sum (s2 199) 0 v.toNat ∧ s5 213 v = y_sum (y_fl s2) 0 v.toNat := fun v p q => by
    rw [d2 211 v (by decide), d2 213 v (by decide), r3 211 v (by decide) (by omega), r3 213 v (by decide) (by omega)]
    exact a1 v p (by omega)
  refine T_useN (e_tie hfu (s := s5) (by omega) (fun u p q => ?_) (fun u p q h4 => ?_) (fun u p q => ?_)) (fun v s6 hq => ?_)
  · rw [p207 u p q]
    by_cases z : y_pt (s5 193) (s5 191 16).toNat u = -1
    · exact Or.inl z
    · have w := (y_pt_ok _ u z).1
      exact Or.inr (by omega)
  · rw [p207 u p q]
    by_cases z : y_pt (s5 193) (s5 191 16).toNat u = -1
    · exact Or.inl z
    · rcases (y_pt_ok _ u z).2.2 with w | w
      · exact Or.inr w.2.1
      · omega
  · have w := (b211 u p q).1
    have w2 := sb u.toNat (by omega)
    omega
  · obtain ⟨rfl, t1, t2, t3⟩ := hq
    refine T_vN ?_
    refine T_ret ?_
    have e6 : s6 191 16 = s5 191 16 := t3 _ _ (by decide) (by decide)
    have k6 : ∀ a : Int, a ≠ 209 → a ≠ 191 → s6 a = s5 a := fun a q1 q2 => funext fun b => t3 a b q1 (by omega)
    have k62 : ∀ a : Int, a ≠ 207 → a ≠ 209 → a ≠ 191 → a ≠ 211 → a ≠ 213 → s6 a = s2 a := fun a q1 q2 q3 q4 q5 => (k6 a q2 q3).trans (k5 a q1 q2 q3 q4 q5)
    have k3 := k62 3 (by decide) (by decide) (by decide) (by decide) (by decide)
    have k8 := k62 8 (by decide) (by decide) (by decide) (by decide) (by decide)
    have k193 := k62 193 (by decide) (by decide) (by decide) (by decide) (by decide)
    have k195 := k62 195 (by decide) (by decide) (by decide) (by decide) (by decide)
    have k197 := k62 197 (by decide) (by decide) (by decide) (by decide) (by decide)
    have k199 := k62 199 (by decide) (by decide) (by decide) (by decide) (by decide)
    have c1 : y_ac s6 = y_ac s2 := funext fun u => by unfold y_ac; rw [k193, k3, k197]
    have c2 : y_wd s6 = y_wd s2 := funext fun u => by unfold y_wd; rw [c1, k193, k8, k195, k197]
    have c3 : y_tn s6 = y_tn s2 := funext fun u => funext fun v => by unfold y_tn; rw [k3]
    have c4 : y_fl s6 = y_fl s2 := funext fun u => by unfold y_fl; rw [k193, k199]
    have q193 := k6 193 (by decide) (by decide)
    have q207 := k6 207 (by decide) (by decide)
    have q211 := k6 211 (by decide) (by decide)
    have q213 := k6 213 (by decide) (by decide)
    have q3 := k6 3 (by decide) (by decide)
    have c5 : y_TP s6 = y_TP s5 := funext fun u => by unfold y_TP; rw [q193, q207, q211, q3]
    have c6 : y_in s6 = y_in s5 := funext fun m => funext fun v => by unfold y_in; rw [c5, q207]
    have c7 : y_tp s6 = y_tp s5 := funext fun u => by unfold y_tp; rw [q193, q207, q211, q3]
    refine ⟨fun u p q => ?_, fun v p q => ?_, ⟨fun x p q => ?_, ?_⟩, fun x p q => ?_, ?_⟩
    · have w := g1 u p (by omega)
      unfold y_MR at w ⊢
      rw [c1, c2, c3, k193, k195, k197, k199, k8, k62 201 (by decide) (by decide) (by decide) (by decide) (by decide), k62 203 (by decide) (by decide) (by decide) (by decide) (by decide), k62 205 (by decide) (by decide) (by decide) (by decide) (by decide), k62 217 (by decide) (by decide) (by decide) (by decide) (by decide), k62 219 (by decide) (by decide) (by decide) (by decide) (by decide), k62 12 (by decide) (by decide) (by decide) (by decide) (by decide), k62 16 (by decide) (by decide) (by decide) (by decide) (by decide), k62 18 (by decide) (by decide) (by decide) (by decide) (by decide)]
      exact w
    · rw [q211, q213, k199, c4]
      exact b211 v p (by omega)
    · rw [q207, q193, e6]
      exact p207 x p (by omega)
    · rw [t3 191 17 (by decide) (by decide), d2 191 17 (by decide), r2, e6, e5, e16'', k193, show s3 193 = s2 193 from funext fun b => a2 _ _ (by decide) (by decide)]
    · rw [c6, e6]
      have ea : y_ae s6 x = y_ae s4 x := by
        unfold y_ae
        rw [e6, e5, q193, d2 193 _ (by decide), d2 193 _ (by decide)]
      rw [ea, ← d1 x p (by omega)]
      exact t1 x p (by omega)
    · rw [t2, c7, e6]
/-- safety and all of it -/
theorem e_buildT {fu : Nat} (hfu : 8589934592 ≤ fu) {s : z_M} (c : z_CI s) (h0 : y_B0 s) : z_T (fX10_build fu s 191) (fun _ s' => y_B0 s' ∧ (y_TOK s → y_UDc s')) := by
  by_cases hT : y_TOK s
  · exact T_mono (T_and (b0_build hfu c h0) (e_build hfu c hT h0)) (fun v s' h => ⟨h.1, fun _ => h.2⟩)
  · exact T_mono (b0_build hfu c h0) (fun v s' h => ⟨h, fun q => absurd q hT⟩)
