/-! UNITS of the class -/
theorem T_and {E : z_O} {P Q : z_V → z_M → Prop} (h : z_T E P) (k : z_T E Q) : z_T E (fun v s => P v s ∧ Q v s) := by
  obtain ⟨v, s, e, p⟩ := h
  obtain ⟨v2, s2, e2, q⟩ := k
  rw [e] at e2
  injection e2 with e3
  injection e3 with e4 e5
  subst e4; subst e5
  exact ⟨v, s, e, p, q⟩
theorem v_ob191 : z_ob 191 10 := by decide +kernel
theorem v_ob6 : z_ob 6 9 := by decide +kernel
theorem v_g0 : z_gr 191 0 = 6 := by decide +kernel
theorem v_g2 : z_gr 191 2 = 192 := by decide +kernel
theorem v_g3 : z_gr 191 3 = 194 := by decide +kernel
theorem v_g4 : z_gr 191 4 = 196 := by decide +kernel
theorem v_g13 : z_gr 191 13 = 214 := by decide +kernel
theorem v_t0 : z_gr 6 0 = 7 := by decide +kernel
theorem v_t2 : z_gr 6 2 = 11 := by decide +kernel
theorem v_t3 : z_gr 6 3 = 13 := by decide +kernel
theorem v_rw7 : z_rw 7 := by decide +kernel
theorem v_rw11 : z_rw 11 := by decide +kernel
theorem v_rw13 : z_rw 13 := by decide +kernel
theorem v_rw192 : z_rw 192 := by decide +kernel
theorem v_rw194 : z_rw 194 := by decide +kernel
theorem v_rw196 : z_rw 196 := by decide +kernel
theorem v_rw214 : z_rw 214 := by decide +kernel
theorem v_c7 : z_gr 7 0 = 8 := by decide +kernel
theorem v_c11 : z_gr 11 0 = 12 := by decide +kernel
theorem v_c13 : z_gr 13 0 = 14 := by decide +kernel
theorem v_c192 : z_gr 192 0 = 193 := by decide +kernel
theorem v_c194 : z_gr 194 0 = 195 := by decide +kernel
theorem v_c196 : z_gr 196 0 = 197 := by decide +kernel
theorem v_c214 : z_gr 214 0 = 215 := by decide +kernel
theorem v_l7 : z_ln 7 = 200 := by decide +kernel
theorem v_l11 : z_ln 11 = 200 := by decide +kernel
theorem v_l13 : z_ln 13 = 200 := by decide +kernel
theorem v_l192 : z_ln 192 = 200 := by decide +kernel
theorem v_l194 : z_ln 194 = 200 := by decide +kernel
theorem v_l196 : z_ln 196 = 200 := by decide +kernel
theorem v_l214 : z_ln 214 = 200 := by decide +kernel
theorem v_rg {s : z_M} {k c i : Int} (hc : z_gr k 0 = c) (l : z_ln k = 200) (h : 0 ≤ i ∧ i < 200) : z_rg s k i = s c i := by
  rw [z_rg_in ⟨h.1, by rw [l]; exact h.2⟩, hc]
theorem v_rp {s : z_M} {k c i v : Int} (hc : z_gr k 0 = c) (l : z_ln k = 200) (h : 0 ≤ i ∧ i < 200) : z_rp s k i v = z_up s c i v := by
  rw [z_rp_in ⟨h.1, by rw [l]; exact h.2⟩, hc]
/-- the kind of a sign by its code, as the class tells it -/
def y_k4 (c : Int) : Int := if c < 97 then (if c < 48 then (if c ≠ 40 then (if c ≠ 41 then (if c ≠ 32 then 3 else 6) else 5) else 4) else 2) else 1
def y_k3 (c : Int) : Int := if c < 65 then y_k4 c else if 90 < c then y_k4 c else 0
def y_kc (s : z_M) (i : Int) : Int := if s 12 i = -1 then y_k3 (s 8 i) else 7
theorem e_k4 {fu : Nat} {s : z_M} {c : Int} : fX10_kindAt_J44 fu s c = some (vI (y_k4 c), s) := by
  unfold fX10_kindAt_J44 fX10_kindAt_J88 y_k4
  by_cases h1 : c < 97
  · rw [if_pos h1, if_pos h1]
    by_cases h2 : c < 48
    · rw [if_pos h2, if_pos h2]
      by_cases h3 : c ≠ 40
      · rw [if_pos h3, if_pos h3]
        by_cases h4 : c ≠ 41
        · rw [if_pos h4, if_pos h4]
          by_cases h5 : c ≠ 32
          · rw [if_pos h5, if_pos h5]
          · rw [if_neg h5, if_neg h5]
        · rw [if_neg h4, if_neg h4]
      · rw [if_neg h3, if_neg h3]
    · rw [if_neg h2, if_neg h2]
  · rw [if_neg h1, if_neg h1]
theorem e_kindAt {fu : Nat} {s : z_M} {i : Int} (h : 0 ≤ i ∧ i < 200) : fX10_kindAt fu s 191 i = some (vI (y_kc s i), s) := by
  unfold fX10_kindAt
  simp only [z_let, if_pos v_ob191, v_g0, if_pos v_ob6, v_t0, v_t2, if_pos v_rw7.1, if_pos v_rw11.1, e_get v_rw7, e_get v_rw11, v_rg v_c7 v_l7 h, v_rg v_c11 v_l11 h, zb_I, e_k4]
  unfold y_kc y_k3
  by_cases h1 : s 12 i = -1
  · rw [if_pos h1, if_pos h1]
    by_cases h2 : s 8 i < 65
    · rw [if_pos h2, if_pos h2]
    · rw [if_neg h2, if_neg h2]
      by_cases h3 : 90 < s 8 i
      · rw [if_pos h3, if_pos h3]
      · rw [if_neg h3, if_neg h3]
  · rw [if_neg h1, if_neg h1]
/-- whether a sign begins a unit, as the class tells it -/
def y_sC (s : z_M) (i : Int) : Int := if y_kc s i = 7 then (if s 14 i = 1 then 1 else 0) else if y_kc s i = 1 ∨ y_kc s i = 2 then (if i = 0 then 1 else if y_kc s (i - 1) = y_kc s i then 0 else 1) else 1
theorem y_sC_01 {s : z_M} : y_01 (y_sC s) := fun i => by
  unfold y_sC
  split
  · split
    · exact Or.inr rfl
    · exact Or.inl rfl
  · split
    · split
      · exact Or.inr rfl
      · split
        · exact Or.inl rfl
        · exact Or.inr rfl
    · exact Or.inr rfl
theorem y_kc_cg {s s' : z_M} (k8 : ∀ b, s' 8 b = s 8 b) (k12 : ∀ b, s' 12 b = s 12 b) : y_kc s' = y_kc s := by
  funext i
  unfold y_kc
  rw [k8, k12]
theorem y_sC_cg {s s' : z_M} (k8 : ∀ b, s' 8 b = s 8 b) (k12 : ∀ b, s' 12 b = s 12 b) (k14 : ∀ b, s' 14 b = s 14 b) : y_sC s' = y_sC s := by
  funext i
  unfold y_sC
  rw [y_kc_cg k8 k12, k14]
theorem e_su43 {fu : Nat} {s : z_M} {i k : Int} (h : 0 ≤ i ∧ i < 200) : fX10_startsUnit_J43 fu s 191 i k = some (vI (if i = 0 then 1 else if y_kc s (i - 1) = k then 0 else 1), s) := by
  unfold fX10_startsUnit_J43 fX10_startsUnit_J58 fX10_startsUnit_J63
  simp only [if_pos bl1, if_pos bl0]
  by_cases h1 : i = 0
  · rw [if_pos h1, if_pos h1]
  · rw [if_neg h1, if_neg h1]
    rw [z_wid (show z_I (i - 1) by unfold z_I; omega)]
    show (if z_ob 191 10 then z_bI (fX10_kindAt fu s 191 (i - 1)) _ else none) = _
    rw [if_pos v_ob191, e_kindAt ⟨by omega, by omega⟩, zb_I]
    by_cases h2 : y_kc s (i - 1) = k
    · rw [if_pos h2, if_pos h2]
    · rw [if_neg h2, if_neg h2]
theorem e_startsUnit {fu : Nat} {s : z_M} {i : Int} (h : 0 ≤ i ∧ i < 200) : fX10_startsUnit fu s 191 i = some (vI (y_sC s i), s) := by
  unfold fX10_startsUnit fX10_startsUnit_J32 fX10_startsUnit_J58 fX10_startsUnit_J63
  simp only [z_let, if_pos v_ob191, v_g0, if_pos v_ob6, v_t3, if_pos v_rw13.1, e_get v_rw13, v_rg v_c13 v_l13 h, zb_I, e_kindAt h, e_su43 h, if_pos bl1, if_pos bl0]
  unfold y_sC
  by_cases h1 : y_kc s i = 7
  · rw [if_neg (fun q => q h1), if_pos h1]
    by_cases h2 : s 14 i = 1
    · rw [if_neg (fun q => q h2), if_pos h2]
    · rw [if_pos h2, if_neg h2]
  · rw [if_pos h1, if_neg h1]
    by_cases h2 : y_kc s i = 1
    · rw [if_pos h2, if_pos (Or.inl h2)]
    · rw [if_neg h2]
      by_cases h3 : y_kc s i = 2
      · rw [if_neg (fun q => q h3), if_pos (Or.inr h3)]
      · rw [if_pos h3, if_neg (by omega)]
/-- a sign more for the last unit -/
theorem e_sp76 {fu : Nat} {s : z_M} {i c : Int} {r : z_M → Int → z_O} {k : z_M → z_O} (h : 0 ≤ i ∧ i < 200) (hc : s 191 16 = c) (h1 : 1 ≤ c ∧ c ≤ 200) (hz : z_I (s 197 (c - 1) + 1)) : fX10_split_J76 fu s 191 i r k = r (z_up (z_up s 197 (c - 1) (s 197 (c - 1) + 1)) 215 i (c - 1)) (i + 1) := by
  unfold fX10_split_J76
  have w : z_w (c - 1) = c - 1 := z_wid (by unfold z_I; omega)
  have e : z_up s 197 (c - 1) (s 197 (c - 1) + 1) 191 16 = c := (z_up_k (by decide)).trans hc
  simp only [z_let, if_pos v_ob191, v_g4, v_g13, hc, w, if_pos v_rw196.1, if_pos v_rw214.1, e_add v_rw196, e_put v_rw214, zb_N, v_rg v_c196 v_l196 (show 0 ≤ c - 1 ∧ c - 1 < 200 by omega), v_rp v_c196 v_l196 (show 0 ≤ c - 1 ∧ c - 1 < 200 by omega), v_rp v_c214 v_l214 h, z_wid hz, e, z_wid (show z_I (i + 1) by unfold z_I; omega)]
/-- the first i signs of the class's text are parted -/
def y_PCi (s : z_M) (i : Int) : Prop := 0 ≤ i ∧ y_PT (y_sC s) (y_kc s) (s 195) (s 197) (s 193) (s 215) (s 191 16) i.toNat
theorem y_PCi.b {s : z_M} {i : Int} (h : y_PCi s i) : 0 ≤ s 191 16 ∧ s 191 16 ≤ i := by
  obtain ⟨h0, h1⟩ := h
  have q := y_cn_b (y_sC_01 (s := s)) i.toNat
  have e := h1.1
  omega
theorem y_PCi.new {s s' : z_M} {i c : Int} (h : y_PCi s i) (hs : y_sC s i = 1) (hc : s 191 16 = c) (f : ∀ a b : Int, a < 191 → s' a b = s a b) (e16 : s' 191 16 = c + 1) (k0 : s' 193 c = y_kc s i) (k1 : ∀ b, b ≠ c → s' 193 b = s 193 b) (f0 : s' 195 c = i) (f1 : ∀ b, b ≠ c → s' 195 b = s 195 b) (z0 : s' 197 c = 1) (z1 : ∀ b, b ≠ c → s' 197 b = s 197 b) (u0 : s' 215 i = c) (u1 : ∀ b, b ≠ i → s' 215 b = s 215 b) : y_PCi s' (i + 1) := by
  obtain ⟨h0, q⟩ := h
  have ei : ((i.toNat : Nat) : Int) = i := by omega
  refine ⟨by omega, ?_⟩
  rw [y_sC_cg (fun b => f 8 b (by decide)) (fun b => f 12 b (by decide)) (fun b => f 14 b (by decide)), y_kc_cg (fun b => f 8 b (by decide)) (fun b => f 12 b (by decide)), show (i + 1).toNat = i.toNat + 1 by omega, e16]
  rw [hc] at q
  exact q.new y_sC_01 (by rw [ei]; exact hs) rfl (by rw [ei]; exact f0) (fun b hb => f1 b (by omega)) z0 (fun b hb => z1 b (by omega)) (by rw [ei]; exact k0) (fun b hb => k1 b (by omega)) (by rw [ei]; exact u0) (fun j hj => u1 j (by omega))
theorem y_PCi.inc {s s' : z_M} {i c : Int} (h : y_PCi s i) (hs : y_sC s i = 0) (hc : s 191 16 = c) (h1 : 1 ≤ c) (f : ∀ a b : Int, a < 191 → s' a b = s a b) (e16 : s' 191 16 = c) (k1 : ∀ b, s' 193 b = s 193 b) (f1 : ∀ b, s' 195 b = s 195 b) (z0 : s' 197 (c - 1) = s 197 (c - 1) + 1) (z1 : ∀ b, b ≠ c - 1 → s' 197 b = s 197 b) (u0 : s' 215 i = c - 1) (u1 : ∀ b, b ≠ i → s' 215 b = s 215 b) : y_PCi s' (i + 1) := by
  obtain ⟨h0, q⟩ := h
  have ei : ((i.toNat : Nat) : Int) = i := by omega
  refine ⟨by omega, ?_⟩
  rw [y_sC_cg (fun b => f 8 b (by decide)) (fun b => f 12 b (by decide)) (fun b => f 14 b (by decide)), y_kc_cg (fun b => f 8 b (by decide)) (fun b => f 12 b (by decide)), show (i + 1).toNat = i.toNat + 1 by omega, e16]
  rw [hc] at q
  exact q.inc (c1 := c - 1) (by rw [ei]; exact hs) rfl h1 (fun b _ => f1 b) z0 (fun b hb => z1 b (by omega)) (fun b _ => k1 b) (by rw [ei]; exact u0) (fun j hj => u1 j (by omega)) y_sC_01
/-- the length of the last unit -/
theorem y_PCi.z {s : z_M} {i c : Int} (h : y_PCi s i) (hc : s 191 16 = c) (h1 : 1 ≤ c) (hi : i ≤ 200) : 0 ≤ s 197 (c - 1) ∧ s 197 (c - 1) ≤ 200 := by
  obtain ⟨h0, q⟩ := h
  rw [hc] at q
  obtain ⟨m, a1, a2, a3, _⟩ := q.to y_sC_01 (v := c - 1) (by omega) (by omega)
  obtain ⟨j, b1, b2, b3, b4, _⟩ := q.at y_sC_01 (v := c - 1) (by omega) (by omega)
  omega
theorem e_splitL {fu : Nat} {n : Int} {k : z_M → z_O} {P : z_V → z_M → Prop} (hn : n ≤ 200) (hk : ∀ s' : z_M, s' 6 6 = n → y_PCi s' n → z_T (k s') P) : ∀ (m F : Nat) (s : z_M) (i : Int), s 6 6 = n → (n = 0 ∨ y_sC s 0 = 1) → (m : Int) = n - i → m < F → y_PCi s i → z_T (fX10_split_L7 fu 191 F s i k) P := by
  intro m
  induction m with
  | zero =>
    intro F s i e6 hT h1 h2 hp
    obtain ⟨F, rfl⟩ : ∃ F2, F = F2 + 1 := ⟨F - 1, by omega⟩
    have e : i = n := by omega
    subst e
    refine T_of (fX10_split_L7.eq_2 ..) ?_
    refine T_if1 v_ob191 ?_
    refine T_let 6 v_g0 ?_
    refine T_if1 v_ob6 ?_
    refine T_let i e6 ?_
    refine T_if1 (Int.le_refl i) ?_
    exact hk s e6 hp
  | succ m ih =>
    intro F s i e6 hT h1 h2 hp
    obtain ⟨F, rfl⟩ : ∃ F2, F = F2 + 1 := ⟨F - 1, by omega⟩
    have h0 := hp.1
    have hb := hp.b
    have hi : 0 ≤ i ∧ i < 200 := by omega
    refine T_of (fX10_split_L7.eq_2 ..) ?_
    refine T_if1 v_ob191 ?_
    refine T_let 6 v_g0 ?_
    refine T_if1 v_ob6 ?_
    refine T_let n e6 ?_
    refine T_if0 (by omega) ?_
    refine T_if1 v_ob191 ?_
    refine T_bI (T_of (e_startsUnit hi) (T_rI ?_))
    obtain ⟨c, hc⟩ : ∃ c, s 191 16 = c := ⟨_, rfl⟩
    rw [hc] at hb
    rcases y_sC_01 (s := s) i with hs | hs
    · have c1 : 1 ≤ c := by
        by_cases q : i = 0
        · rcases hT with hT | hT
          · omega
          · rw [q, hT] at hs; exact absurd hs (by decide)
        · have hT' : y_sC s 0 = 1 := by
            rcases hT with hT | hT
            · omega
            · exact hT
          have e := hp.2.1
          have w := y_cn_mono (y_sC_01 (s := s)) (m := 1) i.toNat (by omega)
          have w1 : y_cn (y_sC s) 1 = 1 := by
            show (0 : Int) + y_sC s ((0 : Nat) : Int) = 1
            rw [show ((0 : Nat) : Int) = 0 from rfl, hT']; rfl
          omega
      have hz := hp.z hc c1 (by omega)
      rw [hs]
      refine T_if1 rfl ?_
      refine T_of (e_sp76 hi hc ⟨c1, by omega⟩ (by unfold z_I; omega)) ?_
      have f : ∀ a b : Int, a < 191 → z_up (z_up s 197 (c - 1) (s 197 (c - 1) + 1)) 215 i (c - 1) a b = s a b := fun a b q => by rw [z_up_k (by omega), z_up_k (by omega)]
      refine ih F _ (i + 1) ((f 6 6 (by decide)).trans e6) ?_ (by omega) (by omega) (hp.inc hs hc c1 f ?_ ?_ ?_ ?_ ?_ ?_ ?_)
      · rw [y_sC_cg (fun b => f 8 b (by decide)) (fun b => f 12 b (by decide)) (fun b => f 14 b (by decide))]; exact hT
      · rw [z_up_k (by decide), z_up_k (by decide)]; exact hc
      · intro b; rw [z_up_k (by decide), z_up_k (by decide)]
      · intro b; rw [z_up_k (by decide), z_up_k (by decide)]
      · rw [z_up_k (by decide), z_up_s]
      · intro b q; rw [z_up_k (by decide), z_up_j q]
      · rw [z_up_s]
      · intro b q; rw [z_up_j q, z_up_k (by decide)]
    · rw [hs]
      have hr : 0 ≤ c ∧ c < 200 := by omega
      refine T_if0 (by decide) ?_
      refine T_if1 v_ob191 ?_
      refine T_let 192 v_g2 ?_
      refine T_if1 v_ob191 ?_
      refine T_let c hc ?_
      refine T_if1 v_ob191 ?_
      refine T_bI (T_of (e_kindAt hi) (T_rI ?_))
      refine T_if1 v_rw192.1 ?_
      refine T_bN (T_of ((e_put v_rw192).trans (by rw [v_rp v_c192 v_l192 hr])) (T_rN ?_))
      refine T_if1 v_ob191 ?_
      refine T_let 194 v_g3 ?_
      refine T_if1 v_ob191 ?_
      refine T_let c ((z_up_k (by decide)).trans hc) ?_
      refine T_if1 v_rw194.1 ?_
      refine T_bN (T_of ((e_put v_rw194).trans (by rw [v_rp v_c194 v_l194 hr])) (T_rN ?_))
      refine T_if1 v_ob191 ?_
      refine T_let 196 v_g4 ?_
      refine T_if1 v_ob191 ?_
      refine T_let c ((z_up_k (by decide)).trans ((z_up_k (by decide)).trans hc)) ?_
      refine T_if1 v_rw196.1 ?_
      refine T_bN (T_of ((e_put v_rw196).trans (by rw [v_rp v_c196 v_l196 hr])) (T_rN ?_))
      refine T_if1 v_ob191 ?_
      refine T_let c ((z_up_k (by decide)).trans ((z_up_k (by decide)).trans ((z_up_k (by decide)).trans hc))) ?_
      refine T_let (c + 1) (z_wid (by unfold z_I; omega)) ?_
      refine T_if1 v_ob191 ?_
      refine T_up ?_
      obtain ⟨s4, h4⟩ : ∃ s4, z_up (z_up (z_up (z_up s 193 c (y_kc s i)) 195 c i) 197 c 0) 191 16 (c + 1) = s4 := ⟨_, rfl⟩
      rw [h4]
      have g4 : ∀ a b : Int, a ≠ 193 → a ≠ 195 → a ≠ 197 → a ≠ 191 → s4 a b = s a b := fun a b p1 p2 p3 p4 => by rw [← h4, z_up_k p4, z_up_k p3, z_up_k p2, z_up_k p1]
      have e16 : s4 191 16 = c + 1 := by rw [← h4, z_up_s]
      have z4 : s4 197 c = 0 := by rw [← h4, z_up_k (by decide), z_up_s]
      have c1 : c + 1 - 1 = c := by omega
      refine T_of (e_sp76 hi e16 ⟨by omega, by omega⟩ (by rw [c1, z4]; decide)) ?_
      rw [c1, z4]
      have f : ∀ a b : Int, a < 191 → z_up (z_up s4 197 c (0 + 1)) 215 i c a b = s a b := fun a b q => by rw [z_up_k (by omega), z_up_k (by omega)]; exact g4 a b (by omega) (by omega) (by omega) (by omega)
      refine ih F _ (i + 1) ((f 6 6 (by decide)).trans e6) ?_ (by omega) (by omega) (hp.new hs hc f ?_ ?_ ?_ ?_ ?_ ?_ ?_ ?_ ?_)
      · rw [y_sC_cg (fun b => f 8 b (by decide)) (fun b => f 12 b (by decide)) (fun b => f 14 b (by decide))]; exact hT
      · rw [z_up_k (by decide), z_up_k (by decide)]; exact e16
      · rw [z_up_k (by decide), z_up_k (by decide), ← h4, z_up_k (by decide), z_up_k (by decide), z_up_k (by decide), z_up_s]
      · intro b q; rw [z_up_k (by decide), z_up_k (by decide), ← h4, z_up_k (by decide), z_up_k (by decide), z_up_k (by decide), z_up_j q]
      · rw [z_up_k (by decide), z_up_k (by decide), ← h4, z_up_k (by decide), z_up_k (by decide), z_up_s]
      · intro b q; rw [z_up_k (by decide), z_up_k (by decide), ← h4, z_up_k (by decide), z_up_k (by decide), z_up_j q, z_up_k (by decide)]
      · rw [z_up_k (by decide), z_up_s]; rfl
      · intro b q; rw [z_up_k (by decide), z_up_j q, ← h4, z_up_k (by decide), z_up_j q, z_up_k (by decide), z_up_k (by decide)]
      · rw [z_up_s]
      · intro b q; rw [z_up_j q, z_up_k (by decide)]; exact g4 _ _ (by decide) (by decide) (by decide) (by decide)
/-- the class's units are those of its text, if that begins with a unit -/
def y_PT0 (s : z_M) : Prop := (s 6 6 = 0 ∨ y_sC s 0 = 1) → y_PCi s (s 6 6)
theorem e_split {fu : Nat} (hfu : 8589934592 ≤ fu) {s : z_M} (hn : 0 ≤ s 6 6 ∧ s 6 6 ≤ 200) (hT : s 6 6 = 0 ∨ y_sC s 0 = 1) : z_T (fX10_split fu s 191) (fun _ s' => y_PCi s' (s' 6 6)) := by
  refine T_of (fX10_split.eq_1 ..) ?_
  refine T_if1 v_ob191 ?_
  refine T_up ?_
  have f : ∀ a b : Int, a < 191 → z_up s 191 16 0 a b = s a b := fun a b q => z_up_k (by omega)
  refine e_splitL (n := s 6 6) hn.2 (fun s' e6 hp => T_ret (by rw [e6]; exact hp)) (s 6 6).toNat fu _ 0 (f 6 6 (by decide)) ?_ (by omega) (by omega) ⟨Int.le_refl 0, ?_⟩
  · rw [y_sC_cg (fun b => f 8 b (by decide)) (fun b => f 12 b (by decide)) (fun b => f 14 b (by decide))]; exact hT
  · rw [z_up_s]; exact y_PT.z
def y_Uu (s : z_M) : Prop := z_U s (s 6 6) ∧ y_PT0 s
theorem y_Uu.fr {s s' : z_M} (h : y_Uu s) (e1 : s' 191 16 = s 191 16) (e2 : s' 6 6 = s 6 6) (e3 : ∀ b, s' 195 b = s 195 b) (e4 : ∀ b, s' 197 b = s 197 b) (e5 : ∀ b, s' 193 b = s 193 b) (e6 : ∀ b, s' 215 b = s 215 b) (k8 : ∀ b, s' 8 b = s 8 b) (k12 : ∀ b, s' 12 b = s 12 b) (k14 : ∀ b, s' 14 b = s 14 b) : y_Uu s' := by
  refine ⟨h.1.fr e1 e2 e3 e4, fun q => ?_⟩
  have es := y_sC_cg k8 k12 k14
  rw [es, e2] at q
  have p := h.2 q
  unfold y_PCi at p ⊢
  rw [e1, e2, es, y_kc_cg k8 k12, show s' 195 = s 195 from funext e3, show s' 197 = s 197 from funext e4, show s' 193 = s 193 from funext e5, show s' 215 = s 215 from funext e6]
  exact p
def y_V16 (s : z_M) : Prop := s 1 16 = 0 ∨ y_Uu s
theorem y_V16.fr {s s' : z_M} (h : y_V16 s) (e0 : s' 1 16 = s 1 16) (e1 : s' 191 16 = s 191 16) (e2 : s' 6 6 = s 6 6) (e3 : ∀ b, s' 195 b = s 195 b) (e4 : ∀ b, s' 197 b = s 197 b) (e5 : ∀ b, s' 193 b = s 193 b) (e6 : ∀ b, s' 215 b = s 215 b) (k8 : ∀ b, s' 8 b = s 8 b) (k12 : ∀ b, s' 12 b = s 12 b) (k14 : ∀ b, s' 14 b = s 14 b) : y_V16 s' := by
  rcases h with h | h
  · exact Or.inl (e0.trans h)
  · exact Or.inr (h.fr e1 e2 e3 e4 e5 e6 k8 k12 k14)
theorem y_V16.z {s : z_M} (h : y_V16 s) : z_V16 s := h.imp id (fun q => q.1)
