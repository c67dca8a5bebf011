/-! UNITS of the class: ends, ties, all of build -/
def y_ae (s : z_M) (u : Int) : Int := if u < s 191 16 - 1 ∧ s 193 u ≠ 4 ∧ s 193 (u + 1) ≠ 3 ∧ s 193 (u + 1) ≠ 5 then 1 else 0
theorem e_allowsEnd {fu : Nat} {s : z_M} {u : Int} (hn : 0 ≤ s 191 16 ∧ s 191 16 ≤ 200) (hu : 0 ≤ u ∧ u < 200) : fX10_allowsEnd fu s 191 u = some (vI (y_ae s u), s) := by
  unfold fX10_allowsEnd fX10_allowsEnd_J22 fX10_allowsEnd_J56 fX10_allowsEnd_J57
  simp only [z_let, if_pos v_ob191, z_wid (show z_I (s 191 16 - 1) by unfold z_I; omega), z_wid (show z_I (u + 1) by unfold z_I; omega), v_g2, if_pos v_rw192.1, e_get v_rw192, zb_I, v_rg v_c192 v_l192 hu, if_pos bl0, if_pos bl1]
  unfold y_ae
  by_cases h1 : s 191 16 - 1 ≤ u
  · rw [if_pos h1, if_neg (by omega)]
  · rw [if_neg h1, v_rg v_c192 v_l192 (show 0 ≤ u + 1 ∧ u + 1 < 200 by omega)]
    by_cases h2 : s 193 u = 4
    · rw [if_neg (fun z => z h2), if_neg (fun z => z.2.1 h2)]
    · rw [if_pos h2]
      by_cases h3 : s 193 (u + 1) = 3
      · rw [if_pos h3, if_neg (fun z => z.2.2.1 h3)]
      · rw [if_neg h3]
        by_cases h4 : s 193 (u + 1) = 5
        · rw [if_pos h4, if_neg (fun z => z.2.2.2 h4)]
        · rw [if_neg h4, if_pos ⟨by omega, h2, h3, h4⟩]
theorem e_endsL {fu : Nat} {n : Int} {s0 : z_M} {k : z_M → z_O} {P : z_V → z_M → Prop} (hn : 0 ≤ n ∧ n ≤ 200) (hk : ∀ s' : z_M, (∀ x : Int, 0 ≤ x → x < n → s' 209 x = y_ae s0 x) → (∀ a b : Int, a ≠ 209 → s' a b = s0 a b) → z_T (k s') P) :
    ∀ (m F : Nat) (s : z_M) (u : Int), (m : Int) = n - u → m < F → 0 ≤ u → s0 191 16 = n → (∀ x : Int, 0 ≤ x → x < u → s 209 x = y_ae s0 x) → (∀ a b : Int, a ≠ 209 → s a b = s0 a b) → z_T (fX10_build_L35 fu 191 F s u k) P := by
  intro m
  induction m with
  | zero =>
    intro F s u h1 h2 h3 h4 h5 h6
    obtain ⟨F, rfl⟩ : ∃ F2, F = F2 + 1 := ⟨F - 1, by omega⟩
    have e : u = n := by omega
    subst e
    refine T_of (fX10_build_L35.eq_2 ..) ?_
    refine T_if1 v_ob191 ?_
    refine T_let u ((h6 _ _ (by decide)).trans h4) ?_
    refine T_if1 (Int.le_refl _) ?_
    exact hk s h5 h6
  | succ m ih =>
    intro F s u h1 h2 h3 h4 h5 h6
    obtain ⟨F, rfl⟩ : ∃ F2, F = F2 + 1 := ⟨F - 1, by omega⟩
    have hu : 0 ≤ u ∧ u < 200 := by omega
    have en : s 191 16 = n := (h6 _ _ (by decide)).trans h4
    have ea : y_ae s u = y_ae s0 u := by
      unfold y_ae
      rw [h6 _ _ (by decide), h6 _ _ (by decide), h6 _ _ (by decide)]
    have go : ∀ t : Int, t = y_ae s0 u → z_T (fX10_build_J61 fu s 191 u 208 u t (fun w v1 => fX10_build_L35 fu 191 F w v1 k) k) P := fun t ht => by
      refine T_of (fX10_build_J61.eq_1 ..) ?_
      refine T_if1 v_r208.1.1 ?_
      refine T_bN (T_of ((e_put v_r208.1).trans (by rw [v_rp v_r208.2.1 v_r208.2.2 hu])) (T_rN ?_))
      refine T_let (u + 1) (z_wid (by unfold z_I; omega)) ?_
      refine ih F _ (u + 1) (by omega) (by omega) (by omega) h4 (fun x p q => ?_) (fun a b p => by rw [z_up_k p]; exact h6 a b p)
      by_cases z : x = u
      · rw [z, z_up_s]; exact ht
      · rw [z_up_j z]; exact h5 x p (by omega)
    refine T_of (fX10_build_L35.eq_2 ..) ?_
    refine T_if1 v_ob191 ?_
    refine T_let n en ?_
    refine T_if0 (by omega) ?_
    refine T_if1 v_ob191 ?_
    refine T_let 208 v_u10 ?_
    refine T_if1 v_ob191 ?_
    refine T_bI (T_of ((e_allowsEnd (by omega) hu).trans (by rw [ea])) (T_rI ?_))
    by_cases q : y_ae s0 u = 0
    · refine T_if1 q ?_
      exact go 0 q.symm
    · refine T_if0 q ?_
      refine go 1 ?_
      unfold y_ae at q ⊢
      split
      · rfl
      · rename_i z; rw [if_neg z] at q; exact absurd rfl q
/-- a pair that is tied -/
def y_TP (s : z_M) (u : Int) : Prop := s 193 u = 4 ∧ s 207 u ≠ -1 ∧ s 211 (s 207 u + 1) - s 211 u ≤ s 3 7
/-- how many of the first n units open such a pair -/
def y_tc (T : Int → Int) : Nat → Int
  | 0 => 0
  | n + 1 => y_tc T n + T n
def y_tp (s : z_M) (u : Int) : Int := if s 193 u = 4 then (if s 207 u = -1 then 0 else if s 3 7 < s 211 (s 207 u + 1) - s 211 u then 0 else 1) else 0
theorem y_tp_iff {s : z_M} {u : Int} : (y_tp s u = 1 ∧ y_TP s u) ∨ (y_tp s u = 0 ∧ ¬ y_TP s u) := by
  unfold y_tp y_TP
  by_cases h1 : s 193 u = 4
  · rw [if_pos h1]
    by_cases h2 : s 207 u = -1
    · rw [if_pos h2]; exact Or.inr ⟨rfl, fun q => q.2.1 h2⟩
    · rw [if_neg h2]
      by_cases h3 : s 3 7 < s 211 (s 207 u + 1) - s 211 u
      · rw [if_pos h3]; exact Or.inr ⟨rfl, fun q => by have := q.2.2; omega⟩
      · rw [if_neg h3]; exact Or.inl ⟨rfl, h1, h2, by omega⟩
  · rw [if_neg h1]; exact Or.inr ⟨rfl, fun q => h1 q.1⟩
theorem y_tc_b {T : Int → Int} (h : ∀ i, T i = 0 ∨ T i = 1) : ∀ n : Nat, 0 ≤ y_tc T n ∧ y_tc T n ≤ n := by
  intro n
  induction n with
  | zero => exact ⟨Int.le_refl _, Int.le_refl _⟩
  | succ n ih =>
    have := h n
    show 0 ≤ y_tc T n + T n ∧ y_tc T n + T n ≤ ((n + 1 : Nat) : Int)
    omega
/-- units inside of a tied pair that opens below m -/
def y_in (s : z_M) (m v : Int) : Prop := ∃ u : Int, 0 ≤ u ∧ u < m ∧ y_TP s u ∧ u ≤ v ∧ v < s 207 u
theorem e_tie88 {fu : Nat} {u c : Int} {s0 : z_M} {k : z_M → z_O} {P : z_V → z_M → Prop} (hu : 0 ≤ u) (hc : c ≤ 200) (hk : ∀ s' : z_M, (∀ x : Int, u ≤ x → x < c → s' 209 x = 0) → (∀ a b : Int, ¬ (a = 209 ∧ u ≤ b ∧ b < c) → s' a b = s0 a b) → z_T (k s') P) :
    ∀ (m F : Nat) (s : z_M) (i : Int), (m : Int) = c - i → m < F → u ≤ i → (∀ x : Int, u ≤ x → x < i → s 209 x = 0) → (∀ a b : Int, ¬ (a = 209 ∧ u ≤ b ∧ b < c) → s a b = s0 a b) → z_T (fX10_tie_L88 fu 191 u c F s i k) P := by
  intro m
  induction m with
  | zero =>
    intro F s i h1 h2 h3 h4 h5
    obtain ⟨F, rfl⟩ : ∃ F2, F = F2 + 1 := ⟨F - 1, by omega⟩
    refine T_of (fX10_tie_L88.eq_2 ..) ?_
    refine T_if1 (by omega) ?_
    exact hk s (fun x p q => h4 x p (by omega)) h5
  | succ m ih =>
    intro F s i h1 h2 h3 h4 h5
    obtain ⟨F, rfl⟩ : ∃ F2, F = F2 + 1 := ⟨F - 1, by omega⟩
    refine T_of (fX10_tie_L88.eq_2 ..) ?_
    refine T_if0 (by omega) ?_
    refine T_if1 v_ob191 ?_
    refine T_let 208 v_u10 ?_
    refine T_if1 v_r208.1.1 ?_
    refine T_bN (T_of ((e_put v_r208.1).trans (by rw [v_rp v_r208.2.1 v_r208.2.2 (show 0 ≤ i ∧ i < 200 by omega)])) (T_rN ?_))
    refine T_let (i + 1) (z_wid (by unfold z_I; omega)) ?_
    refine ih F _ (i + 1) (by omega) (by omega) (by omega) (fun x p q => ?_) (fun a b p => ?_)
    · by_cases z : x = i
      · rw [z, z_up_s]
      · rw [z_up_j z]; exact h4 x p (by omega)
    · rw [← h5 a b p]
      by_cases z : a = 209
      · subst z; exact z_up_j (fun y => p ⟨rfl, by omega, by omega⟩)
      · exact z_up_k z
theorem e_tieL {fu : Nat} (hfu : 8589934592 ≤ fu) {n : Int} {s0 : z_M} {k : z_M → z_O} {P : z_V → z_M → Prop} (hn : 0 ≤ n ∧ n ≤ 200) (hp : ∀ u : Int, 0 ≤ u → u < n → s0 207 u = -1 ∨ (0 ≤ s0 207 u ∧ s0 207 u < n)) (hp4 : ∀ u : Int, 0 ≤ u → u < n → s0 193 u = 4 → s0 207 u = -1 ∨ u < s0 207 u) (hb : ∀ u : Int, 0 ≤ u → u ≤ n → 0 ≤ s0 211 u ∧ s0 211 u ≤ 1000000)
    (hk : ∀ s' : z_M, (∀ x : Int, 0 ≤ x → x < n → (y_in s0 n x ∧ s' 209 x = 0) ∨ (¬ y_in s0 n x ∧ s' 209 x = s0 209 x)) → s' 191 18 = y_tc (y_tp s0) n.toNat → (∀ a b : Int, a ≠ 209 → ¬ (a = 191 ∧ b = 18) → s' a b = s0 a b) → z_T (k s') P) :
    ∀ (m F : Nat) (s : z_M) (u : Int), (m : Int) = n - u → m < F → 0 ≤ u → s0 191 16 = n → (∀ x : Int, 0 ≤ x → x < n → (y_in s0 u x ∧ s 209 x = 0) ∨ (¬ y_in s0 u x ∧ s 209 x = s0 209 x)) → s 191 18 = y_tc (y_tp s0) u.toNat → (∀ a b : Int, a ≠ 209 → ¬ (a = 191 ∧ b = 18) → s a b = s0 a b) → z_T (fX10_tie_L7 fu 191 F s u k) P := by
  intro m
  induction m with
  | zero =>
    intro F s u h1 h2 h3 h4 h5 h6 h7
    obtain ⟨F, rfl⟩ : ∃ F2, F = F2 + 1 := ⟨F - 1, by omega⟩
    have e : u = n := by omega
    subst e
    refine T_of (fX10_tie_L7.eq_2 ..) ?_
    refine T_if1 v_ob191 ?_
    refine T_let u ((h7 _ _ (by decide) (by decide)).trans h4) ?_
    refine T_if1 (Int.le_refl _) ?_
    exact hk s h5 h6 h7
  | succ m ih =>
    intro F s u h1 h2 h3 h4 h5 h6 h7
    obtain ⟨F, rfl⟩ : ∃ F2, F = F2 + 1 := ⟨F - 1, by omega⟩
    have hu : 0 ≤ u ∧ u < 200 := by omega
    have eu : ((u.toNat : Nat) : Int) = u := by omega
    have en : (u + 1).toNat = u.toNat + 1 := by omega
    have etc : y_tc (y_tp s0) (u.toNat + 1) = y_tc (y_tp s0) u.toNat + y_tp s0 (u.toNat : Nat) := rfl
    rw [eu] at etc
    have tb := y_tc_b (T := y_tp s0) (fun i => by rcases y_tp_iff (s := s0) (u := i) with q | q; exact Or.inr q.1; exact Or.inl q.1) u.toNat
    have nx : ∀ x : Int, ¬ y_TP s0 u → (y_in s0 (u + 1) x ↔ y_in s0 u x) := fun x q => by
      refine ⟨fun ⟨w, a, b, c, d⟩ => ⟨w, a, ?_, c, d⟩, fun ⟨w, a, b, c, d⟩ => ⟨w, a, by omega, c, d⟩⟩
      by_cases z : w = u
      · rw [z] at c; exact absurd c q
      · omega
    have skip : ¬ y_TP s0 u → z_T (fX10_tie_J108 fu s 191 u (fun w v1 => fX10_tie_L7 fu 191 F w v1 k) k) P := fun q => by
      refine T_of (fX10_tie_J108.eq_1 ..) ?_
      refine T_let (u + 1) (z_wid (by unfold z_I; omega)) ?_
      refine ih F s (u + 1) (by omega) (by omega) (by omega) h4 (fun x p r => ?_) ?_ h7
      · rw [nx x q]; exact h5 x p r
      · rw [en, etc, h6]
        rcases y_tp_iff (s := s0) (u := u) with z | z
        · exact absurd z.2 q
        · rw [z.1]; omega
    refine T_of (fX10_tie_L7.eq_2 ..) ?_
    refine T_if1 v_ob191 ?_
    refine T_let n ((h7 _ _ (by decide) (by decide)).trans h4) ?_
    refine T_if0 (by omega) ?_
    refine T_if1 v_ob191 ?_
    refine T_let 192 v_g2 ?_
    refine T_if1 v_rw192.1 ?_
    refine T_bI (T_of ((e_get v_rw192).trans (by rw [v_rg v_c192 v_l192 hu, h7 193 u (by decide) (by omega)])) (T_rI ?_))
    refine T_ite (fun q => ?_) (fun q => ?_)
    · refine T_of (fX10_tie_J39.eq_1 ..) ?_
      refine T_if1 rfl ?_
      exact skip (fun z => q z.1)
    · have q4 : s0 193 u = 4 := by
        by_cases z : s0 193 u = 4
        · exact z
        · exact absurd z q
      refine T_if1 v_ob191 ?_
      refine T_let 206 v_u9 ?_
      refine T_if1 v_r206.1.1 ?_
      refine T_bI (T_of ((e_get v_r206.1).trans (by rw [v_rg v_r206.2.1 v_r206.2.2 hu, h7 207 u (by decide) (by omega)])) (T_rI ?_))
      refine T_of (fX10_tie_J39.eq_1 ..) ?_
      refine T_ite (fun qc => ?_) (fun qc => ?_)
      · exact skip (fun z => z.2.1 qc)
      · have pb := (hp u h3 (by omega)).resolve_left qc
        have p4 := (hp4 u h3 (by omega) q4).resolve_left qc
        have b1 := hb u h3 (by omega)
        have b2 := hb (s0 207 u + 1) (by omega) (by omega)
        refine T_if1 v_ob191 ?_
        refine T_let 210 v_u11 ?_
        refine T_let (s0 207 u + 1) (z_wid (by unfold z_I; omega)) ?_
        refine T_if1 v_r210.1.1 ?_
        refine T_bI (T_of ((e_get v_r210.1).trans (by rw [v_rgn v_r210.2.1 v_r210.2.2 (show 0 ≤ s0 207 u + 1 ∧ s0 207 u + 1 < 201 by omega), h7 211 _ (by decide) (by omega)])) (T_rI ?_))
        refine T_if1 v_ob191 ?_
        refine T_let 210 v_u11 ?_
        refine T_if1 v_r210.1.1 ?_
        refine T_bI (T_of ((e_get v_r210.1).trans (by rw [v_rgn v_r210.2.1 v_r210.2.2 (show 0 ≤ u ∧ u < 201 by omega), h7 211 _ (by decide) (by omega)])) (T_rI ?_))
        refine T_let (s0 211 (s0 207 u + 1) - s0 211 u) (z_wid (by unfold z_I; omega)) ?_
        refine T_if1 v_ob191 ?_
        refine T_let 2 v_u1 ?_
        refine T_if1 v_s2.1.1 ?_
        refine T_bI (T_of ((e_get v_s2.1).trans (by rw [v_rgn v_s2.2.1 v_s2.2.2 (show (0 : Int) ≤ 7 ∧ (7 : Int) < 9 by decide), h7 3 _ (by decide) (by decide)])) (T_rI ?_))
        refine T_ite (fun qt => ?_) (fun qt => ?_)
        · exact skip (fun z => by have := z.2.2; omega)
        · have tp : y_TP s0 u := ⟨q4, qc, by omega⟩
          refine T_if1 v_ob191 ?_
          refine T_let (y_tc (y_tp s0) u.toNat) h6 ?_
          refine T_let (y_tc (y_tp s0) u.toNat + 1) (z_wid (by unfold z_I; omega)) ?_
          refine T_if1 v_ob191 ?_
          refine T_up ?_
          have o1 : ∀ a b : Int, ¬ (a = 191 ∧ b = 18) → z_up s 191 18 (y_tc (y_tp s0) u.toNat + 1) a b = s a b := fun a b h => by
            by_cases q : a = 191
            · subst q; exact z_up_j (fun r => h ⟨rfl, r⟩)
            · exact z_up_k q
          refine e_tie88 (s0 := z_up s 191 18 (y_tc (y_tp s0) u.toNat + 1)) h3 (c := s0 207 u) (by omega) (fun s1 g1 g2 => ?_) (s0 207 u - u).toNat fu _ u (by omega) (by omega) (Int.le_refl _) (fun x p r => by omega) (fun _ _ _ => rfl)
          refine T_of (fX10_tie_J108.eq_1 ..) ?_
          refine T_let (u + 1) (z_wid (by unfold z_I; omega)) ?_
          refine ih F s1 (u + 1) (by omega) (by omega) (by omega) h4 (fun x p r => ?_) ?_ (fun a b p r => ?_)
          · by_cases z : u ≤ x ∧ x < s0 207 u
            · exact Or.inl ⟨⟨u, h3, by omega, tp, z⟩, g1 x z.1 z.2⟩
            · have e1 : s1 209 x = s 209 x := by rw [g2 _ _ (fun y => z ⟨y.2.1, y.2.2⟩), o1 _ _ (by omega)]
              have e2 : y_in s0 (u + 1) x ↔ y_in s0 u x := by
                refine ⟨fun ⟨w, a, b, c, d⟩ => ⟨w, a, ?_, c, d⟩, fun ⟨w, a, b, c, d⟩ => ⟨w, a, by omega, c, d⟩⟩
                by_cases y : w = u
                · rw [y] at d; exact absurd d z
                · omega
              rw [e1, e2]; exact h5 x p r
          · rw [g2 _ _ (by omega), z_up_s, en, etc]
            rcases y_tp_iff (s := s0) (u := u) with z | z
            · rw [z.1]
            · exact absurd tp z.2
          · rw [g2 _ _ (fun y => p y.1), o1 _ _ r]; exact h7 a b p r
theorem e_tie {fu : Nat} (hfu : 8589934592 ≤ fu) {s : z_M} (hn : 0 ≤ s 191 16 ∧ s 191 16 ≤ 200) (hp : ∀ u : Int, 0 ≤ u → u < s 191 16 → s 207 u = -1 ∨ (0 ≤ s 207 u ∧ s 207 u < s 191 16)) (hp4 : ∀ u : Int, 0 ≤ u → u < s 191 16 → s 193 u = 4 → s 207 u = -1 ∨ u < s 207 u) (hb : ∀ u : Int, 0 ≤ u → u ≤ s 191 16 → 0 ≤ s 211 u ∧ s 211 u ≤ 1000000) :
    z_T (fX10_tie fu s 191) (fun v s' => v = vN ∧ (∀ x : Int, 0 ≤ x → x < s 191 16 → (y_in s (s 191 16) x ∧ s' 209 x = 0) ∨ (¬ y_in s (s 191 16) x ∧ s' 209 x = s 209 x)) ∧ s' 191 18 = y_tc (y_tp s) (s 191 16).toNat ∧ ∀ a b : Int, a ≠ 209 → ¬ (a = 191 ∧ b = 18) → s' a b = s a b) := by
  refine T_of (fX10_tie.eq_1 ..) ?_
  refine T_if1 v_ob191 ?_
  refine T_up ?_
  have o : ∀ a b : Int, ¬ (a = 191 ∧ b = 18) → z_up s 191 18 0 a b = s a b := fun a b h => by
    by_cases q : a = 191
    · subst q; exact z_up_j (fun r => h ⟨rfl, r⟩)
    · exact z_up_k q
  exact e_tieL hfu (n := s 191 16) (s0 := s) hn hp hp4 hb (fun s' g1 g2 g3 => T_ret ⟨rfl, g1, g2, g3⟩) (s 191 16).toNat fu _ 0 (by omega) (by omega) (Int.le_refl _) rfl (fun x p q => Or.inr ⟨fun ⟨w, a, b, _⟩ => by omega, o _ _ (by omega)⟩) z_up_s (fun a b p q => o a b q)
