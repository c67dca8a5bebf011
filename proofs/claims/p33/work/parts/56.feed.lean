/-! The tape on both sides -/
theorem w_sh {x : BitVec 32} {n : Nat} (h : n ≤ 24) : (x >>> n) &&& 255#32 = (x.sshiftRight n) &&& 255#32 := by
  apply BitVec.eq_of_getLsbD_eq
  intro i hi
  rw [BitVec.getLsbD_and, BitVec.getLsbD_and, BitVec.getLsbD_ushiftRight, BitVec.getLsbD_sshiftRight]
  by_cases q : i < 8
  · have e1 : (!decide (32 ≤ i)) = true := by
      rw [decide_eq_false (by omega)]; rfl
    rw [e1, Bool.true_and, if_pos (by omega)]
  · have e : (255#32).getLsbD i = false := by
      have w : (255#32) = BitVec.ofNat 32 (2 ^ 8 - 1) := by decide
      rw [w, BitVec.getLsbD_ofNat, Nat.testBit_two_pow_sub_one, decide_eq_false q, Bool.and_false]
    rw [e, Bool.and_false, Bool.and_false]
/-- the byte j of a number, the highest first -/
def y_by (x j : Int) : Int := z_and (z_shr x (24 - 8 * j)) 255
theorem w_by (x : Int) (j : Int) (h : 0 ≤ j ∧ j ≤ 3) : z_and (z_ushr x (24 - 8 * j)) 255 = y_by x j := by
  unfold y_by z_and z_shr z_ushr
  rw [Int32.ofInt_toInt, Int32.ofInt_toInt]
  congr 1
  apply Int32.toBitVec_inj.mp
  have k : ∀ n : Nat, n ≤ 24 → ((Int32.ofInt x).toBitVec >>> n) &&& 255#32 = ((Int32.ofInt x).toBitVec.sshiftRight n) &&& 255#32 := fun n hn => w_sh hn
  rcases (show j = 0 ∨ j = 1 ∨ j = 2 ∨ j = 3 by omega) with rfl | rfl | rfl | rfl
  · exact k 24 (by decide)
  · exact k 16 (by decide)
  · exact k 8 (by decide)
  · exact k 0 (by decide)
theorem v_ob4 : z_ob 4 7 := rw4.1
/-- four bytes come on the class's tape -/
def y_TN (s s' : z_M) (x : Int) : Prop := s' 1 12 = s 1 12 + 4 ∧ (∀ j : Int, 0 ≤ j → j < 4 → s' 5 (s 1 12 + j) = y_by x j) ∧ (∀ b : Int, b < s 1 12 → s' 5 b = s 5 b) ∧ ∀ a b : Int, a ≠ 5 → ¬ (a = 1 ∧ b = 12) → s' a b = s a b
theorem e_tnL {fu : Nat} {x p : Int} {s0 : z_M} {k : z_M → z_O} {P : z_V → z_M → Prop} (hp : 0 ≤ p ∧ p ≤ 296) (hk : ∀ s' : z_M, s' 1 12 = p + 4 → (∀ j : Int, 0 ≤ j → j < 4 → s' 5 (p + j) = y_by x j) → (∀ b : Int, b < p → s' 5 b = s0 5 b) → (∀ a b : Int, a ≠ 5 → ¬ (a = 1 ∧ b = 12) → s' a b = s0 a b) → z_T (k s') P) :
    ∀ (m F : Nat) (s : z_M) (i : Int), (m : Int) = 4 - i → m < F → 0 ≤ i → s 1 12 = p + i → (∀ j : Int, 0 ≤ j → j < i → s 5 (p + j) = y_by x j) → (∀ b : Int, b < p → s 5 b = s0 5 b) → (∀ a b : Int, a ≠ 5 → ¬ (a = 1 ∧ b = 12) → s a b = s0 a b) → z_T (fX11_tapeNumber_L3 fu 1 x F s (24 - 8 * i) k) P := by
  intro m
  induction m with
  | zero =>
    intro F s i h1 h2 h3 h4 h5 h6 h7
    obtain ⟨F, rfl⟩ : ∃ F2, F = F2 + 1 := ⟨F - 1, by omega⟩
    have e : i = 4 := by omega
    subst e
    refine T_of (fX11_tapeNumber_L3.eq_2 ..) ?_
    refine T_if1 (by decide) ?_
    exact hk s h4 h5 h6 h7
  | succ m ih =>
    intro F s i h1 h2 h3 h4 h5 h6 h7
    obtain ⟨F, rfl⟩ : ∃ F2, F = F2 + 1 := ⟨F - 1, by omega⟩
    refine T_of (fX11_tapeNumber_L3.eq_2 ..) ?_
    refine T_if0 (by omega) ?_
    refine T_if1 v_ob1 ?_
    refine T_let 4 v_g1_1 ?_
    refine T_if1 v_ob1 ?_
    refine T_let (p + i) h4 ?_
    refine T_let (z_ushr x (24 - 8 * i)) rfl ?_
    refine T_let (y_by x i) (w_by x i ⟨h3, by omega⟩) ?_
    refine T_if1 rw4.1 ?_
    have l4 : 0 ≤ p + i ∧ p + i < z_ln 4 := by rw [ln4]; omega
    refine T_bN (T_of ((e_put rw4).trans (by rw [z_rp_in l4, gr4])) (T_rN ?_))
    refine T_if1 v_ob1 ?_
    refine T_let (p + i) ((z_up_k (by decide)).trans h4) ?_
    refine T_let (p + i + 1) (z_wid (by unfold z_I; omega)) ?_
    refine T_if1 v_ob1 ?_
    refine T_up ?_
    refine T_let (24 - 8 * (i + 1)) ((z_wid (by unfold z_I; omega)).trans (by omega)) ?_
    have o : ∀ a b : Int, a ≠ 5 → ¬ (a = 1 ∧ b = 12) → z_up (z_up s 5 (p + i) (y_by x i)) 1 12 (p + i + 1) a b = s a b := fun a b q1 q2 => by
      by_cases q : a = 1
      · subst q; rw [z_up_j (fun r => q2 ⟨rfl, r⟩), z_up_k q1]
      · rw [z_up_k q, z_up_k q1]
    refine ih F _ (i + 1) (by omega) (by omega) (by omega) ?_ (fun j q1 q2 => ?_) (fun b q => ?_) (fun a b q1 q2 => (o a b q1 q2).trans (h7 a b q1 q2))
    · rw [z_up_s]; omega
    · rw [z_up_k (by decide)]
      by_cases q : j = i
      · rw [q, z_up_s]
      · rw [z_up_j (by omega)]; exact h5 j q1 (by omega)
    · rw [z_up_k (by decide), z_up_j (by omega)]; exact h6 b q
theorem e_tn {fu : Nat} (hfu : 8589934592 ≤ fu) {s : z_M} {x : Int} (hp : 0 ≤ s 1 12 ∧ s 1 12 ≤ 296) : z_T (fX11_tapeNumber fu s 1 x) (fun v s' => v = vN ∧ y_TN s s' x) := by
  refine T_of (fX11_tapeNumber.eq_1 ..) ?_
  exact e_tnL (s0 := s) hp (fun s' g1 g2 g3 g4 => T_ret ⟨rfl, g1, g2, g3, g4⟩) 4 fu s 0 (by decide) (by omega) (by decide) (by omega) (fun j q1 q2 => by omega) (fun _ _ => rfl) (fun _ _ _ _ => rfl)
/-- which of five numbers has the byte k -/
def y_pk (a b c d e k : Int) : Int := if k < 4 then a else if k < 8 then b else if k < 12 then c else if k < 16 then d else e
/-- twenty bytes come on a tape: cell t, its length in cell f at place g -/
def y_FD (s s' : z_M) (t f g a b c d e : Int) (v : z_V) : Prop := (280 < s f g ∧ v = vI (-1) ∧ s' f g = s f g ∧ ∀ b, s' t b = s t b) ∨ (s f g ≤ 280 ∧ v = vI (s f g + 20) ∧ s' f g = s f g + 20 ∧ (∀ k : Int, 0 ≤ k → k < 20 → s' t (s f g + k) = y_by (y_pk a b c d e k) (k % 4)) ∧ ∀ b : Int, b < s f g → s' t b = s t b)
theorem e_feed {fu : Nat} (hfu : 8589934592 ≤ fu) {s : z_M} {a b c d e : Int} (hp : 0 ≤ s 1 12 ∧ s 1 12 ≤ 300) : z_T (fX11_feed fu s 1 a b c d e) (fun v s' => y_FD s s' 5 1 12 a b c d e v ∧ ∀ i j : Int, i ≠ 5 → ¬ (i = 1 ∧ j = 12) → s' i j = s i j) := by
  refine T_of (fX11_feed.eq_1 ..) ?_
  refine T_if1 v_ob1 ?_
  refine T_let (s 1 12) rfl ?_
  refine T_ite (fun h => ?_) (fun h => ?_)
  · refine T_if1 v_ob1 ?_
    refine T_useN (e_tn hfu (by omega)) (fun v s1 hq => ?_)
    obtain ⟨rfl, p1, b1, o1, f1⟩ := hq
    refine T_vN ?_
    refine T_if1 v_ob1 ?_
    refine T_useN (e_tn hfu (by omega)) (fun v s2 hq => ?_)
    obtain ⟨rfl, p2, b2, o2, f2⟩ := hq
    refine T_vN ?_
    refine T_if1 v_ob1 ?_
    refine T_useN (e_tn hfu (by omega)) (fun v s3 hq => ?_)
    obtain ⟨rfl, p3, b3, o3, f3⟩ := hq
    refine T_vN ?_
    refine T_if1 v_ob1 ?_
    refine T_useN (e_tn hfu (by omega)) (fun v s4 hq => ?_)
    obtain ⟨rfl, p4, b4, o4, f4⟩ := hq
    refine T_vN ?_
    refine T_if1 v_ob1 ?_
    refine T_useN (e_tn hfu (by omega)) (fun v s5 hq => ?_)
    obtain ⟨rfl, p5, b5, o5, f5⟩ := hq
    refine T_vN ?_
    refine T_if1 v_ob1 ?_
    refine T_let (s 1 12 + 20) (by omega) ?_
    refine T_ret ⟨Or.inr ⟨h, rfl, by omega, fun k q1 q2 => ?_, fun i q => ?_⟩, fun i j q1 q2 => ?_⟩
    · rcases (show k < 4 ∨ (4 ≤ k ∧ k < 8) ∨ (8 ≤ k ∧ k < 12) ∨ (12 ≤ k ∧ k < 16) ∨ 16 ≤ k by omega) with z | z | z | z | z
      · have w := b1 k q1 z
        rw [o5 _ (by omega), o4 _ (by omega), o3 _ (by omega), o2 _ (by omega), w, show k % 4 = k by omega]
        unfold y_pk; rw [if_pos z]
      · have w := b2 (k - 4) (by omega) (by omega)
        rw [o5 _ (by omega), o4 _ (by omega), o3 _ (by omega), show s 1 12 + k = s1 1 12 + (k - 4) by omega, w, show k % 4 = k - 4 by omega]
        unfold y_pk; rw [if_neg (by omega), if_pos (by omega)]
      · have w := b3 (k - 8) (by omega) (by omega)
        rw [o5 _ (by omega), o4 _ (by omega), show s 1 12 + k = s2 1 12 + (k - 8) by omega, w, show k % 4 = k - 8 by omega]
        unfold y_pk; rw [if_neg (by omega), if_neg (by omega), if_pos (by omega)]
      · have w := b4 (k - 12) (by omega) (by omega)
        rw [o5 _ (by omega), show s 1 12 + k = s3 1 12 + (k - 12) by omega, w, show k % 4 = k - 12 by omega]
        unfold y_pk; rw [if_neg (by omega), if_neg (by omega), if_neg (by omega), if_pos (by omega)]
      · have w := b5 (k - 16) (by omega) (by omega)
        rw [show s 1 12 + k = s4 1 12 + (k - 16) by omega, w, show k % 4 = k - 16 by omega]
        unfold y_pk; rw [if_neg (by omega), if_neg (by omega), if_neg (by omega), if_neg (by omega)]
    · rw [o5 _ (by omega), o4 _ (by omega), o3 _ (by omega), o2 _ (by omega)]; exact o1 _ q
    · rw [f5 _ _ q1 q2, f4 _ _ q1 q2, f3 _ _ q1 q2, f2 _ _ q1 q2]; exact f1 _ _ q1 q2
  · exact T_ret ⟨Or.inl ⟨by omega, rfl, rfl, fun _ => rfl⟩, fun _ _ _ _ => rfl⟩
theorem v_ob309 : z_ob 309 12 := by decide +kernel
theorem v_g309_8 : z_gr 309 8 = 311 := by decide +kernel
theorem v_311 : (1 ≤ (311 : Int) ∧ (311 : Int) ≤ 7658 ∧ (z_sh 311).1 = 100) ∧ ((z_sh 311).2 : Int) = 300 := by decide +kernel
theorem e_mfL {fu : Nat} {a b c d e p : Int} {s0 : z_M} {kk : z_M → z_O} {P : z_V → z_M → Prop} (hp : 0 ≤ p ∧ p ≤ 280) (hk : ∀ s' : z_M, s' 309 2 = p + 20 → (∀ k : Int, 0 ≤ k → k < 20 → s' 311 (p + k) = y_by (y_pk a b c d e k) (k % 4)) → (∀ b : Int, b < p → s' 311 b = s0 311 b) → z_T (kk s') P) :
    ∀ (m F : Nat) (s : z_M) (i : Int), (m : Int) = 20 - i → m < F → 0 ≤ i → s 309 2 = p + i → (∀ k : Int, 0 ≤ k → k < i → s 311 (p + k) = y_by (y_pk a b c d e k) (k % 4)) → (∀ b : Int, b < p → s 311 b = s0 311 b) → z_T (fX12_feed_L23 fu 309 a b c d e F s i kk) P := by
  intro m
  induction m with
  | zero =>
    intro F s i h1 h2 h3 h4 h5 h6
    obtain ⟨F, rfl⟩ : ∃ F2, F = F2 + 1 := ⟨F - 1, by omega⟩
    have e : i = 20 := by omega
    subst e
    refine T_of (fX12_feed_L23.eq_2 ..) ?_
    refine T_if1 (by decide) ?_
    exact hk s h4 h5 h6
  | succ m ih =>
    intro F s i h1 h2 h3 h4 h5 h6
    obtain ⟨F, rfl⟩ : ∃ F2, F = F2 + 1 := ⟨F - 1, by omega⟩
    have go : ∀ t : Int, t = y_pk a b c d e i → z_T (fX12_feed_J76 fu s 309 a b c d e i t (fun w v6 => fX12_feed_L23 fu 309 a b c d e F w v6 kk) kk) P := fun t ht => by
      refine T_of (fX12_feed_J76.eq_1 ..) ?_
      refine T_if1 v_ob309 ?_
      refine T_let 311 v_g309_8 ?_
      refine T_if1 v_ob309 ?_
      refine T_let (p + i) h4 ?_
      refine T_if1 (by decide) ?_
      refine T_let (i % 4) (Int.tmod_eq_emod_of_nonneg h3) ?_
      refine T_let (8 * (i % 4)) (z_wid (by unfold z_I; omega)) ?_
      refine T_let (24 - 8 * (i % 4)) (z_wid (by unfold z_I; omega)) ?_
      refine T_let (z_shr t (24 - 8 * (i % 4))) rfl ?_
      refine T_let (y_by t (i % 4)) rfl ?_
      refine T_if1 ⟨v_311.1, by omega, by rw [v_311.2]; omega⟩ ?_
      refine T_up ?_
      refine T_if1 v_ob309 ?_
      refine T_let (p + i) ((z_up_k (by decide)).trans h4) ?_
      refine T_let (p + i + 1) (z_wid (by unfold z_I; omega)) ?_
      refine T_if1 v_ob309 ?_
      refine T_up ?_
      refine T_let (i + 1) (z_wid (by unfold z_I; omega)) ?_
      refine ih F _ (i + 1) (by omega) (by omega) (by omega) ?_ (fun j q1 q2 => ?_) (fun j q => ?_)
      · rw [z_up_s]; omega
      · rw [z_up_k (by decide)]
        by_cases q : j = i
        · rw [q, z_up_s, ht]
        · rw [z_up_j (by omega)]; exact h5 j q1 (by omega)
      · rw [z_up_k (by decide), z_up_j (by omega)]; exact h6 j q
    refine T_of (fX12_feed_L23.eq_2 ..) ?_
    refine T_if0 (by omega) ?_
    unfold y_pk at go
    refine T_ite (fun z1 => ?_) (fun z1 => ?_)
    · refine T_ite (fun z2 => ?_) (fun z2 => ?_)
      · refine T_ite (fun z3 => ?_) (fun z3 => ?_)
        · refine T_ite (fun z4 => ?_) (fun z4 => ?_)
          · exact go e (by rw [if_neg (by omega), if_neg (by omega), if_neg (by omega), if_neg (by omega)])
          · exact go d (by rw [if_neg (by omega), if_neg (by omega), if_neg (by omega), if_pos (by omega)])
        · exact go c (by rw [if_neg (by omega), if_neg (by omega), if_pos (by omega)])
      · exact go b (by rw [if_neg (by omega), if_pos (by omega)])
    · exact go a (by rw [if_pos (by omega)])
theorem e_mfeed {fu : Nat} (hfu : 8589934592 ≤ fu) {s : z_M} {a b c d e : Int} (hp : 0 ≤ s 309 2 ∧ s 309 2 ≤ 300) : z_T (fX12_feed fu s 309 a b c d e) (fun v s' => y_FD s s' 311 309 2 a b c d e v) := by
  refine T_of (fX12_feed.eq_1 ..) ?_
  refine T_if1 v_ob309 ?_
  refine T_up ?_
  refine T_if1 v_ob309 ?_
  have e2 : z_up s 309 0 0 309 2 = s 309 2 := z_up_j (by decide)
  refine T_let (s 309 2) e2 ?_
  refine T_let (s 309 2 + 20) (z_wid (by unfold z_I; omega)) ?_
  refine T_ite (fun h => ?_) (fun h => ?_)
  · refine e_mfL (p := s 309 2) (s0 := s) (by omega) (fun s' g1 g2 g3 => ?_) 20 fu _ 0 (by decide) (by omega) (by decide) (by omega) (fun j q1 q2 => by omega) (fun b _ => z_up_k (by decide))
    refine T_if1 v_ob309 ?_
    refine T_let (s 309 2 + 20) g1 ?_
    exact T_ret (Or.inr ⟨by omega, rfl, g1, g2, g3⟩)
  · exact T_ret (Or.inl ⟨by omega, rfl, e2, fun b => z_up_k (by decide)⟩)
