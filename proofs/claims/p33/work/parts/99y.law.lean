/-! BETWEEN TWO CALLS, texts alike (by program, wip/tool/mklawtext.py) -/
def y_MI (s : z_M) : Prop := y_TA s ∧ y_DD s ∧ y_B s ∧ y_K s
theorem y_MI.fr {s s' : z_M} (h : y_MI s) (c : z_CI s) (g : ∀ a b : Int, 309 ≤ a → a ≤ 7657 → s' a b = s a b) : y_MI s' := by
  have b58 := CI_b c (k := 309) (j := 58) bd_309_58
  refine ⟨h.1.fr (fun a b q => g a b (by omega) (by omega)) (fun a b q => g a b (by omega) (by omega)) (fun a b q => g a b (by omega) (by omega)), h.2.1.fr (g _ _ (by decide) (by decide)) (g _ _ (by decide) (by decide)) (fun b => g _ b (by decide) (by decide)) (fun b => g _ b (by decide) (by decide)), y_B.fr h.2.2.1 (g _ _ (by decide) (by decide)) (g _ _ (by decide) (by decide)) (fun b => g _ b (by decide) (by decide)) (fun b => g _ b (by decide) (by decide)) (fun b => g _ b (by decide) (by decide)) (fun b => g _ b (by decide) (by decide)), ?_⟩
  have e36 := g 309 36 (by decide) (by decide)
  have e43 := g 309 43 (by decide) (by decide)
  exact y_K.fr h.2.2.2 b58.2 (by omega) (g _ _ (by decide) (by decide)) (g _ _ (by decide) (by decide)) (g _ _ (by decide) (by decide)) (fun b => g _ b (by decide) (by decide)) (fun b => g _ b (by decide) (by decide)) (fun a b q => g a b (by omega) (by omega))
theorem bd_out : z_bd 7658 0 = (-9223372036854775808, 9223372036854775807) := by decide +kernel
theorem bd_309_2q : z_bd 309 2 = (0, 300) := by decide +kernel
section ZC
variable {P : z_V → z_M → Prop} {s : z_M} {x : Int} {f : Int → z_M → z_O} {h0 h1 : z_M → z_O}
theorem T_vcI (h : z_T (f x s) P) : z_T (z_cI (some (vI x, s)) f h0 h1) P := h
theorem T_vcL (h : z_T (f x s) P) : z_T (z_cL (some (vL x, s)) f h0 h1) P := h
theorem T_v0I (h : z_T (h0 s) P) : z_T (z_cI (some (vX 0, s)) f h0 h1) P := by
  show z_T (if (0 : Int) = 0 then h0 s else if (0 : Int) = 1 then h1 s else none) P
  rw [if_pos rfl]; exact h
theorem T_v1I (h : z_T (h1 s) P) : z_T (z_cI (some (vX 1, s)) f h0 h1) P := by
  show z_T (if (1 : Int) = 0 then h0 s else if (1 : Int) = 1 then h1 s else none) P
  rw [if_neg (by decide), if_pos rfl]; exact h
theorem T_v0L (h : z_T (h0 s) P) : z_T (z_cL (some (vX 0, s)) f h0 h1) P := by
  show z_T (if (0 : Int) = 0 then h0 s else if (0 : Int) = 1 then h1 s else none) P
  rw [if_pos rfl]; exact h
theorem T_v1L (h : z_T (h1 s) P) : z_T (z_cL (some (vX 1, s)) f h0 h1) P := by
  show z_T (if (1 : Int) = 0 then h0 s else if (1 : Int) = 1 then h1 s else none) P
  rw [if_neg (by decide), if_pos rfl]; exact h
end ZC
theorem y_PU.keep {s s1 : z_M} (h : y_PU s) (cf : ∀ a b : Int, 309 ≤ a → a ≤ 7657 → s1 a b = s a b) : y_PU s1 :=
  h.fr (cf _ _ (by decide) (by decide)) (cf _ _ (by decide) (by decide)) (fun b => cf _ b (by decide) (by decide)) (fun b => cf _ b (by decide) (by decide)) (fun b => cf _ b (by decide) (by decide)) (fun b => cf _ b (by decide) (by decide)) (fun b => cf _ b (by decide) (by decide)) (fun b => cf _ b (by decide) (by decide))
/-- all that holds between two calls -/
def y_LX (s : z_M) : Prop := z_CI s ∧ y_V3 s ∧ y_MI s ∧ y_PU s ∧ y_XX s
/-- and after the class's call -/
def y_LC (s s1 : z_M) : Prop := z_CI s1 ∧ y_V3 s1 ∧ y_MI s1 ∧ y_PU s1 ∧ ∀ a b : Int, 309 ≤ a → a ≤ 7657 → s1 a b = s a b
/-- the class's cells of the texts, the tape, the fault -/
def y_SK0 (a b : Int) : Prop := (6 ≤ a ∧ a ≤ 18) ∨ (33 ≤ a ∧ a ≤ 190) ∨ a = 5 ∨ (a = 1 ∧ (b = 12 ∨ b = 13))
def y_SC (s s' : z_M) : Prop := ∀ a b : Int, y_SK0 a b → s' a b = s a b
/-- the reference's -/
def y_KK (a b : Int) : Prop := (316 ≤ a ∧ a ≤ 404) ∨ (407 ≤ a ∧ a ≤ 3219) ∨ (3220 ≤ a ∧ a ≤ 3223) ∨ a = 311 ∨ (a = 309 ∧ (b = 2 ∨ b = 5 ∨ b = 19 ∨ b = 20))
theorem y_SC.out {s s' : z_M} (h : y_SC s s') {x : Int} : y_SC s (z_up s' 7658 0 x) := fun a b q => (z_up_k (by unfold y_SK0 at q; omega)).trans (h a b q)
theorem y_LC.out {s s' : z_M} (lc : y_LC s s') {x : Int} (b : -9223372036854775808 ≤ x ∧ x ≤ 9223372036854775807) : y_LC s (z_up s' 7658 0 x) :=
  ⟨CI_up lc.1 bd_out b, lc.2.1.cls (fun a b q => z_up_k (by omega)), lc.2.2.1.fr lc.1 (fun a b p q => z_up_k (by omega)), lc.2.2.2.1.keep (fun a b p q => z_up_k (by omega)), fun a b p q => (z_up_k (by omega)).trans (lc.2.2.2.2 a b p q)⟩
theorem y_LC.nm {s s1 s2 : z_M} (lc : y_LC s s1) (h : y_LX s) (sc : y_SC s s1) (c : z_CI s2) (mi : y_MI s2) (hm : ∀ a b : Int, a ≤ 308 ∨ a = 7658 → s2 a b = s1 a b) (hk : ∀ a b : Int, y_KK a b → s2 a b = s1 a b) : y_LX s2 := by
  have X := h.2.2.2.2
  have cf := lc.2.2.2.2
  have k : ∀ a b : Int, y_KK a b → s2 a b = s a b := fun a b q => (hk a b q).trans (cf a b (by unfold y_KK at q; omega) (by unfold y_KK at q; omega))
  have kc : ∀ a b : Int, y_SK0 a b → s2 a b = s a b := fun a b q => (hm a b (Or.inl (by unfold y_SK0 at q; omega))).trans (sc a b q)
  refine ⟨c, lc.2.1.cls (fun a b q => hm a b (Or.inl q)), mi, ?_, ?_⟩
  · exact lc.2.2.2.1.fr (hk _ _ (by unfold y_KK; omega)) (hk _ _ (by unfold y_KK; omega)) (fun b => hk _ b (by unfold y_KK; omega)) (fun b => hk _ b (by unfold y_KK; omega)) (fun b => hk _ b (by unfold y_KK; omega)) (fun b => hk _ b (by unfold y_KK; omega)) (fun b => hk _ b (by unfold y_KK; omega)) (fun b => hk _ b (by unfold y_KK; omega))
  · have tt : y_TT s s2 := y_TT.rf.fr (fun a b q => k a b (by unfold y_KK; omega)) (fun a b q => k a b (by unfold y_KK; omega)) (fun a b q => k a b (by unfold y_KK; omega)) (fun a b q => k a b (by unfold y_KK; omega)) (fun a b q => k a b (by unfold y_KK; omega)) (fun a b q => k a b (by unfold y_KK; omega)) (fun a b q => k a b (by unfold y_KK; omega))
    refine y_XX.same X h.1 (fun a b q => kc a b (by unfold y_SK0; omega)) tt (k 309 19 (by unfold y_KK; omega)) ⟨?_, fun i p q => ?_⟩ ?_
    · rw [kc 1 12 (by unfold y_SK0; omega), k 309 2 (by unfold y_KK; omega)]; exact X.2.2.1.1
    · rw [kc 1 12 (by unfold y_SK0; omega)] at q
      rw [kc 5 i (by unfold y_SK0; omega), k 311 i (by unfold y_KK; omega)]; exact X.2.2.1.2 i p q
    · rw [kc 1 13 (by unfold y_SK0; omega), k 309 5 (by unfold y_KK; omega)]; exact X.2.2.2
/-- what the class's calls leave for the reference's -/
def y_JT (G : z_M → Prop) (s s1 : z_M) (n x : Int) : Prop := ∃ v0 s0, (∀ a b : Int, a ≤ 308 → s1 a b = s0 a b) ∧ y_CX s n G v0 s0 ∧ ((v0 = vX 1 ∧ x = 1) ∨ ∃ z, v0 = vI z ∧ x = 0 ∧ s1 7658 0 = z) ∧ ((0 ≤ n ∧ n ≤ s 1 12 ∧ s1 1 12 = 0) ∨ ((n < 0 ∨ s 1 12 < n) ∧ s1 1 12 = s 1 12)) ∧ ∀ b, s1 5 b = s 5 b
def y_JC (s s1 : z_M) (a b x : Int) : Prop := ∃ v0 s0, (∀ a b : Int, a ≤ 308 → s1 a b = s0 a b) ∧ y_CCT s a b v0 s0 ∧ ((v0 = vX 0 ∧ x = 1) ∨ (v0 = vX 1 ∧ x = 2) ∨ ∃ z, v0 = vI z ∧ x = 0 ∧ s1 7658 0 = z) ∧ s1 1 12 = s 1 12 ∧ ∀ b, s1 5 b = s 5 b
def y_JU (s s1 : z_M) (x : Int) : Prop := y_CU8 s (vI x) s1 ∧ s1 1 12 = s 1 12 ∧ ∀ b, s1 5 b = s 5 b
def y_JF (s s1 : z_M) (a b c d e x : Int) : Prop := y_FD s s1 5 1 12 a b c d e (vI x) ∧ ∀ i j : Int, i ≠ 5 → ¬ (i = 1 ∧ j = 12) → s1 i j = s i j
def y_JTM (s2 : z_M) (x y : Int) : Prop := s2 309 0 = x ∧ (x = 0 → s2 7658 0 = y)
theorem e_fault {fu : Nat} (_ : 8589934592 ≤ fu) {s : z_M} : z_T (fX11_fault fu s 1) (fun v s' => v = vI (s 1 13) ∧ s' = s) := by
  refine T_of (fX11_fault.eq_1 ..) ?_
  refine T_if1 v_ob1 ?_
  refine T_let (s 1 13) rfl ?_
  exact T_ret ⟨rfl, rfl⟩
theorem e_mfault {fu : Nat} {s : z_M} : z_T (fX12_fault fu s 309) (fun v _ => v = vI (s 309 5)) := by
  refine T_of (fX12_fault.eq_1 ..) ?_
  refine T_if1 v_ob309 ?_
  refine T_up ?_
  refine T_if1 v_ob309 ?_
  refine T_let (s 309 5) (z_up_j (by decide)) ?_
  exact T_ret rfl
theorem y_LC.feed {s s1 s2 : z_M} {a b c d e x y : Int} (lc : y_LC s s1) (h : y_LX s) (ci : z_CI s2) (mi : y_MI s2) (J : y_JF s s1 a b c d e x) (g : y_FD s1 s2 311 309 2 a b c d e (vI y)) (hm : ∀ a b : Int, a ≤ 308 ∨ a = 7658 → s2 a b = s1 a b) (hf : ∀ i j : Int, i ≠ 311 → ¬ (i = 309 ∧ (j = 0 ∨ j = 2)) → s2 i j = s1 i j) : y_LX s2 ∧ x = y := by
  obtain ⟨C, fc⟩ := J
  have X := h.2.2.2.2
  have cf := lc.2.2.2.2
  have e12 := X.2.2.1.1
  have e2 : s1 309 2 = s 309 2 := cf _ _ (by decide) (by decide)
  have m12 : s2 1 12 = s1 1 12 := hm _ _ (Or.inl (by decide))
  have k : ∀ i j : Int, 309 ≤ i → i ≤ 7657 → i ≠ 311 → ¬ (i = 309 ∧ (j = 0 ∨ j = 2)) → s2 i j = s i j := fun i j q1 q2 q3 q4 => (hf i j q3 q4).trans (cf i j q1 q2)
  have main : x = y ∧ (s2 1 12 = s2 309 2 ∧ ∀ i : Int, 0 ≤ i → i < s2 1 12 → s2 5 i = s2 311 i) := by
    rcases C with ⟨c0, cv, c1, c2⟩ | ⟨c0, cv, c1, c2, c3⟩
    · rcases g with ⟨g0, gv, g1, g2⟩ | ⟨g0, _⟩
      · have ex : x = -1 := congrArg Prod.snd cv
        have ey : y = -1 := congrArg Prod.snd gv
        refine ⟨by omega, by omega, fun i p q => ?_⟩
        rw [hm 5 _ (Or.inl (by decide)), c2, g2, cf 311 _ (by decide) (by decide)]
        exact X.2.2.1.2 i p (by omega)
      · omega
    · rcases g with ⟨g0, _⟩ | ⟨g0, gv, g1, g2, g3⟩
      · omega
      · have ex : x = s 1 12 + 20 := congrArg Prod.snd cv
        have ey : y = s1 309 2 + 20 := congrArg Prod.snd gv
        refine ⟨by omega, by omega, fun i p q => ?_⟩
        rw [hm 5 _ (Or.inl (by decide))]
        by_cases z : i < s 1 12
        · rw [c3 i z, g3 i (by omega), cf 311 _ (by decide) (by decide)]
          exact X.2.2.1.2 i p (by omega)
        · have w1 := c2 (i - s 1 12) (by omega) (by omega)
          have w2 := g2 (i - s 1 12) (by omega) (by omega)
          rw [show s 1 12 + (i - s 1 12) = i by omega] at w1
          rw [show s1 309 2 + (i - s 1 12) = i by omega] at w2
          rw [w1, w2]
  refine ⟨⟨ci, lc.2.1.cls (fun a b q => hm a b (Or.inl q)), mi, ?_, ?_⟩, main.1⟩
  · exact lc.2.2.2.1.fr (hf _ _ (by decide) (by decide)) (hf _ _ (by decide) (by decide)) (fun b => hf _ b (by decide) (by omega)) (fun b => hf _ b (by decide) (by omega)) (fun b => hf _ b (by decide) (by omega)) (fun b => hf _ b (by decide) (by omega)) (fun b => hf _ b (by decide) (by omega)) (fun b => hf _ b (by decide) (by omega))
  · have tt : y_TT s s2 := y_TT.rf.fr (fun a b q => k a b (by omega) (by omega) (by omega) (by omega)) (fun a b q => k a b (by omega) (by omega) (by omega) (by omega)) (fun a b q => k a b (by omega) (by omega) (by omega) (by omega)) (fun a b q => k a b (by omega) (by omega) (by omega) (by omega)) (fun a b q => k a b (by omega) (by omega) (by omega) (by omega)) (fun a b q => k a b (by omega) (by omega) (by omega) (by omega)) (fun a b q => k a b (by omega) (by omega) (by omega) (by omega))
    refine y_XX.same X h.1 (fun a b q => (hm a b (Or.inl (by omega))).trans (fc a b (by omega) (by omega))) tt (k 309 19 (by decide) (by decide) (by decide) (by decide)) main.2 ?_
    rw [hm 1 13 (Or.inl (by decide)), fc 1 13 (by decide) (by decide), k 309 5 (by decide) (by decide) (by decide) (by decide)]
    exact X.2.2.2
def y_I6 (s : z_M) : Prop := ∀ j : Int, s 3 j = s 312 j ∧ s 313 j = z_s0 313 j ∧ s 314 j = z_s0 314 j
theorem y_I6.step {s s1 s2 : z_M} (h : y_I6 s) (c3 : ∀ j : Int, s1 3 j = s 3 j) (cf : ∀ a b : Int, 309 ≤ a → a ≤ 7657 → s1 a b = s a b) (m3 : ∀ a b : Int, a ≤ 308 ∨ a = 7658 ∨ a = 313 ∨ a = 314 → s2 a b = s1 a b) (m12 : ∀ j : Int, s2 312 j = s1 312 j) : y_I6 s2 := fun j => by
  rw [m3 3 j (Or.inl (by decide)), c3, m12, cf 312 j (by decide) (by decide), m3 313 j (by omega), cf 313 j (by decide) (by decide), m3 314 j (by omega), cf 314 j (by decide) (by decide)]
  exact h j
theorem y_tb {i : Int} (h : 0 ≤ i ∧ i ≤ 8) : z_s0 313 i = z_tb 0 i.toNat ∧ z_s0 314 i = z_tb 1 i.toNat := by
  rcases (show i = 0 ∨ i = 1 ∨ i = 2 ∨ i = 3 ∨ i = 4 ∨ i = 5 ∨ i = 6 ∨ i = 7 ∨ i = 8 by omega) with rfl | rfl | rfl | rfl | rfl | rfl | rfl | rfl | rfl <;> decide +kernel
theorem y_I6.rg {s s1 : z_M} (h : y_I6 s) (cf : ∀ a b : Int, 309 ≤ a → a ≤ 7657 → s1 a b = s a b) {i v : Int} : y_RG s1 i v ↔ y_SG i v := by
  unfold y_RG y_SG
  rw [cf 313 i (by decide) (by decide), cf 314 i (by decide) (by decide), (h i).2.1, (h i).2.2]
  constructor
  · rintro ⟨a, b, c, d⟩
    rw [(y_tb ⟨a, b⟩).1] at c
    rw [(y_tb ⟨a, b⟩).2] at d
    exact ⟨a, b, c, d⟩
  · rintro ⟨a, b, c, d⟩
    rw [(y_tb ⟨a, b⟩).1, (y_tb ⟨a, b⟩).2]
    exact ⟨a, b, c, d⟩
theorem y_I6.set {s s1 s2 : z_M} (h : y_I6 s) {i v x y : Int} (cf : ∀ a b : Int, 309 ≤ a → a ≤ 7657 → s1 a b = s a b) (hc : (x = 0 ∧ y_SG i v ∧ s1 7658 0 = s 3 i ∧ s1 3 i = v ∧ ∀ j : Int, j ≠ i → s1 3 j = s 3 j) ∨ (x = 1 ∧ ¬ y_SG i v ∧ ∀ j : Int, s1 3 j = s 3 j)) (m3 : ∀ a b : Int, a ≤ 308 ∨ a = 7658 ∨ a = 313 ∨ a = 314 → s2 a b = s1 a b) (hm : y_MS s1 s2 i v y) : y_I6 s2 ∧ s2 309 0 = x ∧ (x = 0 → s2 7658 0 = y) := by
  have k3 : ∀ j : Int, s2 313 j = z_s0 313 j ∧ s2 314 j = z_s0 314 j := fun j => by
    rw [m3 313 j (by omega), cf 313 j (by decide) (by decide), m3 314 j (by omega), cf 314 j (by decide) (by decide)]
    exact (h j).2
  rcases hc with ⟨hx, hg, ho, hi, hj⟩ | ⟨hx, hg, hj⟩
  · rcases hm with ⟨_, h0, e1, e2, e3⟩ | ⟨hn, _, _⟩
    · refine ⟨fun j => ⟨?_, k3 j⟩, by rw [h0, hx], fun _ => ?_⟩
      · rw [m3 3 j (Or.inl (by decide))]
        by_cases q : j = i
        · subst q; rw [hi, e2]
        · rw [hj j q, e3 j q, cf 312 j (by decide) (by decide)]; exact (h j).1
      · rw [m3 7658 0 (by omega), ho, e1, cf 312 i (by decide) (by decide)]; exact (h i).1
    · exact absurd (h.rg cf |>.mpr hg) hn
  · rcases hm with ⟨hn, _, _⟩ | ⟨_, h0, e3⟩
    · exact absurd (h.rg cf |>.mp hn) hg
    · refine ⟨fun j => ⟨?_, k3 j⟩, by rw [h0, hx], fun q => by omega⟩
      rw [m3 3 j (Or.inl (by decide)), hj j, e3 j, cf 312 j (by decide) (by decide)]; exact (h j).1
theorem y_S3i {s s' : z_M} {i v x : Int} (hs : (∃ y, vI x = vI y ∧ -2147483648 ≤ y ∧ y ≤ 2147483647 ∧ y_CS s s' i v y) ∨ (vI x = vX 1 ∧ ¬ y_SG i v ∧ ∀ j : Int, s' 3 j = s 3 j)) : ((0 : Int) = 0 ∧ y_SG i v ∧ z_up s' 7658 0 x 7658 0 = s 3 i ∧ z_up s' 7658 0 x 3 i = v ∧ ∀ j : Int, j ≠ i → z_up s' 7658 0 x 3 j = s 3 j) ∨ ((0 : Int) = 1 ∧ ¬ y_SG i v ∧ ∀ j : Int, z_up s' 7658 0 x 3 j = s 3 j) := by
  rcases hs with ⟨y, e, _, _, h⟩ | ⟨e, _⟩
  · have e2 : x = y := congrArg Prod.snd e
    exact Or.inl ⟨rfl, h.1, by rw [z_up_s, e2]; exact h.2.1, by rw [z_up_k (by decide)]; exact h.2.2.1, fun j q => by rw [z_up_k (by decide)]; exact h.2.2.2 j q⟩
  · exact (y_XI e.symm).elim
theorem y_S3x {s s' : z_M} {i v : Int} (hs : (∃ y, vX 1 = vI y ∧ -2147483648 ≤ y ∧ y ≤ 2147483647 ∧ y_CS s s' i v y) ∨ (vX 1 = vX 1 ∧ ¬ y_SG i v ∧ ∀ j : Int, s' 3 j = s 3 j)) : ((1 : Int) = 0 ∧ y_SG i v ∧ s' 7658 0 = s 3 i ∧ s' 3 i = v ∧ ∀ j : Int, j ≠ i → s' 3 j = s 3 j) ∨ ((1 : Int) = 1 ∧ ¬ y_SG i v ∧ ∀ j : Int, s' 3 j = s 3 j) := by
  rcases hs with ⟨y, e, _⟩ | ⟨_, h⟩
  · exact (y_XI e).elim
  · exact Or.inr ⟨rfl, h⟩
theorem y_LX.tk {s sr : z_M} (h : y_LX s) (rf : y_RF s sr) : y_TOK sr :=
  (y_T2.cl h.2.2.2.2.1 (fun a b q => rf.2.2.1 a b (by omega) (by omega))).tok (y_n0 h.1).1
theorem y_LX.bt {s s1 sr : z_M} (h : y_LX s) (t6 : y_I6 s) (lc : y_LC s s1) (rf : y_RF s sr) : y_BT sr s1 :=
  ⟨rf.2.1, (y_T2.cl h.2.2.2.2.1 (fun a b q => rf.2.2.1 a b (by omega) (by omega))).md h.1 lc.2.2.2.2, lc.2.2.2.1, lc.1, rf.1, fun j => by rw [rf.2.2.1 3 j (by decide) (by decide), lc.2.2.2.2 312 j (by decide) (by decide)]; exact (t6 j).1⟩
theorem y_LX.mo {s s1 : z_M} (h : y_LX s) (lc : y_LC s s1) : y_MO s1 := (h.2.2.2.2.1.md h.1 lc.2.2.2.2).MO lc.2.2.2.1 (y_n1 lc.1).2
theorem y_LX.lcs {s : z_M} (h : y_LX s) : y_LC s s := ⟨h.1, h.2.1, h.2.2.1, h.2.2.2.1, fun _ _ _ _ => rfl⟩
theorem y_LX.mu {fu : Nat} (hfu : 8589934592 ≤ fu) {s s1 : z_M} (h : y_LX s) (t6 : y_I6 s) (lc : y_LC s s1) : y_MU2 (y_dm s1) s1 := by
  obtain ⟨v, sr, _, _, rf⟩ := e_fresh hfu h.1 h.2.1.1
  exact (h.bt t6 lc rf).MU
theorem q_marks {g s : z_M} (b : y_BT g s) {d : Int} (ok : 0 ≤ d ∧ d ≤ 1) : y_sum (y_mk g d) 0 (g 6 6).toNat = y_sum (y_ms s d) 0 (s 316 0).toNat := by
  obtain ⟨u, X, p, c, _, _⟩ := b
  have n := y_n0 c
  rw [X.1.n0]
  exact y_sum_cg _ (fun i h0 h1 => y_mk_eq X u p n.1 (y_n1 c).2 (by omega) h0 (by omega))
theorem q_run {g s : z_M} (b : y_BT g s) {k w : Int} : y_rv (g 219) (g 6 6) k w (g 6 6).toNat 0 0 = y_rv (y_tm s) (s 316 0) k w (s 316 0).toNat 0 0 := by
  obtain ⟨u, X, p, c, _, st⟩ := b
  rw [X.1.n0]
  exact y_rv_cg (fun i h0 h1 => y_tn_eq X u p (y_n0 c).1 st h0 h1) _ _ _ (Int.le_refl 0)
/-- settings in their ranges; what is kept -/
def y_S9 (s : z_M) : Prop := ∀ j : Int, 0 ≤ j → j ≤ 8 → y_SG j (s 3 j)
def y_J7 (s : z_M) : Prop := y_S9 s ∧ y_KM s ∧ y_YM s ∧ y_Y4 s
theorem y_J7.len {s : z_M} (h : y_J7 s) : 12 ≤ s 3 0 ∧ s 3 0 ≤ 999 := by
  obtain ⟨_, _, a, b⟩ := h.1 0 (by decide) (by decide)
  rw [show z_tb 0 (0 : Int).toNat = 12 by decide +kernel] at a
  rw [show z_tb 1 (0 : Int).toNat = 999 by decide +kernel] at b
  exact ⟨a, b⟩
theorem y_J7.r2 {s : z_M} (h : y_J7 s) : 0 ≤ s 3 2 ∧ s 3 2 ≤ 6 := by
  obtain ⟨_, _, a, b⟩ := h.1 2 (by decide) (by decide)
  rw [show z_tb 0 (2 : Int).toNat = 0 by decide +kernel] at a
  rw [show z_tb 1 (2 : Int).toNat = 6 by decide +kernel] at b
  exact ⟨a, b⟩
theorem y_J7.r7 {s : z_M} (h : y_J7 s) : 0 ≤ s 3 7 ∧ s 3 7 ≤ 99 := by
  obtain ⟨_, _, a, b⟩ := h.1 7 (by decide) (by decide)
  rw [show z_tb 0 (7 : Int).toNat = 0 by decide +kernel] at a
  rw [show z_tb 1 (7 : Int).toNat = 99 by decide +kernel] at b
  exact ⟨a, b⟩
theorem y_J7.r3 {s : z_M} (h : y_J7 s) : 0 ≤ s 3 3 ∧ s 3 3 ≤ 1 := by
  obtain ⟨_, _, a, b⟩ := h.1 3 (by decide) (by decide)
  rw [show z_tb 0 (3 : Int).toNat = 0 by decide +kernel] at a
  rw [show z_tb 1 (3 : Int).toNat = 1 by decide +kernel] at b
  exact ⟨a, b⟩
theorem y_S9.step {s s1 s2 : z_M} (h : y_S9 s) (c3 : ∀ j : Int, s1 3 j = s 3 j) (m3 : ∀ a b : Int, a ≤ 308 ∨ a = 7658 ∨ a = 313 ∨ a = 314 → s2 a b = s1 a b) : y_S9 s2 := fun j p q => by
  rw [m3 3 j (Or.inl (by decide)), c3]; exact h j p q
theorem y_S9.set {s s1 s2 : z_M} {i v x : Int} (h : y_S9 s) (hc : (x = 0 ∧ y_SG i v ∧ s1 7658 0 = s 3 i ∧ s1 3 i = v ∧ ∀ j : Int, j ≠ i → s1 3 j = s 3 j) ∨ (x = 1 ∧ ¬ y_SG i v ∧ ∀ j : Int, s1 3 j = s 3 j)) (m3 : ∀ a b : Int, a ≤ 308 ∨ a = 7658 ∨ a = 313 ∨ a = 314 → s2 a b = s1 a b) : y_S9 s2 := fun j p q => by
  rw [m3 3 j (Or.inl (by decide))]
  rcases hc with ⟨_, hg, _, hi, hj⟩ | ⟨_, _, hj⟩
  · by_cases z : j = i
    · subst z; rw [hi]; exact hg
    · rw [hj j z]; exact h j p q
  · rw [hj]; exact h j p q
theorem y_KM.cls {s s1 : z_M} (h : y_KM s) (cf : ∀ a b : Int, 309 ≤ a → a ≤ 7657 → s1 a b = s a b) : y_KM s1 :=
  h.fr (cf _ _ (by decide) (by decide)) (cf _ _ (by decide) (by decide)) (cf _ _ (by decide) (by decide)) (cf _ _ (by decide) (by decide)) (fun b => cf _ b (by decide) (by decide)) (fun b => cf _ b (by decide) (by decide)) (fun b => cf _ b (by decide) (by decide)) (fun b => cf _ b (by decide) (by decide)) (fun b => cf _ b (by decide) (by decide)) (fun a b q => cf a b (by omega) (by omega)) (fun a b q => cf a b (by omega) (by omega)) (fun a b q => cf a b (by omega) (by omega))
theorem y_LX.ok7 {s sr : z_M} (h : y_LX s) (t6 : y_I6 s) (t7 : y_J7 s) (rf : y_RF s sr) : y_OKc sr :=
  (h.bt t6 h.lcs rf).OKc (by rw [rf.2.2.1 3 2 (by decide) (by decide)]; exact t7.r2) (by rw [rf.2.2.1 3 0 (by decide) (by decide)]; exact t7.len)
theorem y_LX.mk7 {fu : Nat} (hfu : 8589934592 ≤ fu) {s s1 : z_M} (h : y_LX s) (t6 : y_I6 s) (t7 : y_J7 s) (lc : y_LC s s1) (km : y_KM s1) : y_Mk (y_dm s1) s1 s1 := by
  obtain ⟨v, sr, _, _, rf⟩ := e_fresh hfu h.1 h.2.1.1
  have e : ∀ j : Int, s1 312 j = s 3 j := fun j => by rw [lc.2.2.2.2 312 j (by decide) (by decide)]; exact (t6 j).1.symm
  have r7 := t7.r7
  exact ((h.bt t6 lc rf).OKm (by rw [e]; exact t7.r2) (by rw [e]; omega)).MK km
theorem y_LX.l7 {s s1 : z_M} (t6 : y_I6 s) (t7 : y_J7 s) (lc : y_LC s s1) : 0 ≤ s1 312 0 ∧ s1 312 0 ≤ 10000 := by
  have e : s1 312 0 = s 3 0 := by rw [lc.2.2.2.2 312 0 (by decide) (by decide)]; exact (t6 0).1.symm
  have r := t7.len
  omega
theorem y_YM.cls {s s1 : z_M} (h : y_YM s) (cf : ∀ a b : Int, 309 ≤ a → a ≤ 7657 → s1 a b = s a b) : y_YM s1 := by
  have e36 := cf 309 36 (by decide) (by decide)
  have e43 := cf 309 43 (by decide) (by decide)
  exact h.fr (by omega) (cf _ _ (by decide) (by decide)) (cf _ _ (by decide) (by decide)) (cf _ _ (by decide) (by decide)) (fun b => cf _ b (by decide) (by decide)) (fun b => cf _ b (by decide) (by decide)) (fun b => cf _ b (by decide) (by decide)) (fun b => cf _ b (by decide) (by decide)) (fun b => cf _ b (by decide) (by decide)) (fun a b q => cf a b (by omega) (by omega)) (fun a b q => cf a b (by omega) (by omega)) (fun b => cf _ b (by decide) (by decide)) (fun a b q => cf a b (by omega) (by omega)) (fun a b q => cf a b (by omega) (by omega))
theorem y_LX.gy {fu : Nat} (hfu : 8589934592 ≤ fu) {s s1 : z_M} (h : y_LX s) (t6 : y_I6 s) (t7 : y_J7 s) (lc : y_LC s s1) (km : y_KM s1) (ym : y_YM s1) : y_GY s1 := by
  obtain ⟨v, sr, _, _, rf⟩ := e_fresh hfu h.1 h.2.1.1
  have e : ∀ j : Int, s1 312 j = s 3 j := fun j => by rw [lc.2.2.2.2 312 j (by decide) (by decide)]; exact (t6 j).1.symm
  have r7 := t7.r7
  have b := h.bt t6 lc rf
  exact ⟨lc.1, lc.2.2.1.2.2.1, lc.2.2.1.2.2.2, km, ym, b.OKm (by rw [e]; exact t7.r2) (by rw [e]; omega), b.FM, fun u p q => b.w1 p q, y_LX.l7 t6 t7 lc⟩
theorem y_J7.r5 {s : z_M} (h : y_J7 s) : s 3 5 = 0 ∨ s 3 5 = 1 := by
  obtain ⟨_, _, a, b⟩ := h.1 5 (by decide) (by decide)
  rw [show z_tb 0 (5 : Int).toNat = 0 by decide +kernel] at a
  rw [show z_tb 1 (5 : Int).toNat = 1 by decide +kernel] at b
  omega
theorem y_LX.btf {s s1 g m : z_M} (h : y_LX s) (t6 : y_I6 s) (lc : y_LC s s1) (fl : y_FLc s g) (cm : z_CI m) (fm : ∀ a b : Int, (a ≤ 3223 ∧ a ≠ 309 ∧ ¬ (a = 312 ∧ b = 5)) ∨ (a = 309 ∧ b = 20) → m a b = s1 a b) (em : m 312 5 = 1 - s1 312 5) : y_BT g m := by
  have X : y_T2 g 6 s1 0 := (y_T2.cl h.2.2.2.2.1 (fun a b q => fl.2.2.1 a b (by omega) (by omega) (by omega))).md h.1 lc.2.2.2.2
  have n := y_NN.of lc.1 0 (by decide) (by decide)
  have e : ∀ j : Int, s1 312 j = s 3 j := fun j => by rw [lc.2.2.2.2 312 j (by decide) (by decide)]; exact (t6 j).1.symm
  refine ⟨fl.2.1, ?_, lc.2.2.2.1.fr (fm _ _ (by omega)) (fm _ _ (by omega)) (fun b => fm _ _ (by omega)) (fun b => fm _ _ (by omega)) (fun b => fm _ _ (by omega)) (fun b => fm _ _ (by omega)) (fun b => fm _ _ (by omega)) (fun b => fm _ _ (by omega)), cm, fl.1, fun j => ?_⟩
  · obtain ⟨h1, h2, h3⟩ := X
    have r : y_RS2 s1 m 0 0 := ⟨fm _ _ (by omega), fm _ _ (by omega), fm _ _ (by omega), fun b _ _ => ⟨fm _ _ (by omega), fm _ _ (by omega), fm _ _ (by omega), fm _ _ (by omega)⟩, y_RGL.fr (by decide) (fun a b q => fm a b (by omega)) (fun a b q => fm a b (by omega))⟩
    have r1 := r.2.1
    refine ⟨?_, h2, h3.rs r n.1 n.2.2 n.2.1⟩
    rw [r1]
    exact h1.rs r n.1
  · by_cases z : j = 5
    · rw [z, fl.2.2.2, em, e]
    · rw [fl.2.2.1 3 j (by decide) (by decide) (by omega), fm 312 j (by omega), e]
theorem y_LX.okf {s g : z_M} (h : y_LX s) (t6 : y_I6 s) (t7 : y_J7 s) (fl : y_FLc s g) : y_OKc g := by
  have k : ∀ j : Int, j ≠ 5 → g 3 j = s 3 j := fun j q => fl.2.2.1 3 j (by decide) (by decide) (by omega)
  have c9 : z_CI (z_up s 312 5 (1 - s 312 5)) := CI_up h.1 (bdr_312 5) (by have r := t7.r5; rw [(t6 5).1] at r; omega)
  exact (h.btf t6 h.lcs fl c9 (fun a b q => z_up_k2 (by omega)) z_up_s).OKc (by rw [k 2 (by decide)]; exact t7.r2) (by rw [k 0 (by decide)]; exact t7.len)
theorem y_LX.okyf {fu : Nat} (hfu : 8589934592 ≤ fu) {s s1 sx : z_M} (h : y_LX s) (t6 : y_I6 s) (t7 : y_J7 s) (lc : y_LC s s1) (cm : z_CI sx) (fm : ∀ a b : Int, (a ≤ 3223 ∧ a ≠ 309 ∧ ¬ (a = 312 ∧ b = 5)) ∨ (a = 309 ∧ b = 20) → sx a b = s1 a b) (em : sx 312 5 = 1 - s1 312 5) : y_OKy sx := by
  obtain ⟨_, _, _, x9, _, sr, g, _, _, _, fl, _⟩ := e_cmoves hfu h.1 h.2.1 t7.2.2.2 t7.r5 (fun g fl => h.okf t6 t7 fl)
  have b := h.btf t6 lc fl cm fm em
  have e : ∀ j : Int, j ≠ 5 → sx 312 j = s 3 j := fun j q => by rw [fm 312 j (by omega), lc.2.2.2.2 312 j (by decide) (by decide)]; exact (t6 j).1.symm
  have r7 := t7.r7
  have l := t7.len
  exact ⟨b.OKm (by rw [e 2 (by decide)]; exact t7.r2) (by rw [e 7 (by decide)]; omega), b.FM, fun u p q => b.w1 p q, by rw [e 0 (by decide)]; omega⟩
theorem y_J7.r8 {s : z_M} (h : y_J7 s) : 0 ≤ s 3 8 ∧ s 3 8 ≤ 12 := by
  obtain ⟨_, _, a, b⟩ := h.1 8 (by decide) (by decide)
  rw [show z_tb 0 (8 : Int).toNat = 0 by decide +kernel] at a
  rw [show z_tb 1 (8 : Int).toNat = 12 by decide +kernel] at b
  omega
/-- the sides, and how many colours there may be by then -/
def y_J8 (n : Int) (s : z_M) : Prop := y_Y5 s ∧ y_Zp s ∧ s 296 9 ≤ 40 * n
theorem y_J8.up {n : Int} {s : z_M} (h : y_J8 n s) : y_J8 (n + 6) s := ⟨h.1, h.2.1, by have := h.2.2; omega⟩
theorem y_J8.step {n : Int} {s s1 s2 : z_M} (h : y_J8 n s) (k : y_K5 s s1) (m3 : ∀ a b : Int, a ≤ 308 ∨ a = 7658 ∨ a = 313 ∨ a = 314 → s2 a b = s1 a b) : y_J8 (n + 6) s2 := by
  refine ⟨k.1.cls (fun a b q => m3 a b (Or.inl q)), k.2.1.fr (fun a b q => m3 a b (Or.inl (by omega))), ?_⟩
  rw [m3 296 9 (Or.inl (by decide))]
  have := k.2.2
  have := h.2.2
  omega
theorem y_K5.out {s s' : z_M} {j v : Int} (h : y_K5 s s') : y_K5 s (z_up s' 7658 j v) := ⟨h.1.cls (fun a b q => z_up_k (by omega)), h.2.1.fr (fun a b q => z_up_k (by omega)), by rw [z_up_k (by decide)]; exact h.2.2⟩
theorem y_LX.g8 {s s1 : z_M} (t6 : y_I6 s) (t7 : y_J7 s) (lc : y_LC s s1) : (0 ≤ s1 312 8 ∧ s1 312 8 ≤ 12) ∧ s1 312 0 ≤ 999 := by
  have e : ∀ j : Int, s1 312 j = s 3 j := fun j => by rw [lc.2.2.2.2 312 j (by decide) (by decide)]; exact (t6 j).1.symm
  rw [e, e]
  exact ⟨t7.r8, t7.len.2⟩
/-- the reference's state, laid out -/
theorem y_RM.rbd {s sl : z_M} (rm : y_RM s sl) (mo : y_MO s) (pu : y_PU s) (g8 : (0 ≤ s 312 8 ∧ s 312 8 ≤ 12) ∧ s 312 0 ≤ 999) : y_RBd sl := by
  have k := rm.2.1
  exact ⟨y_CRg.of rm.1, rm.2.2.2.1, rm.2.2.1, mo.cg (fun a b p q => k a b (by omega)), pu.fr (k 309 20 (by omega)) (k 316 0 (by omega)) (fun b => k 346 b (by omega)) (fun b => k 361 b (by omega)) (fun b => k 3220 b (by omega)) (fun b => k 3221 b (by omega)) (fun b => k 3222 b (by omega)) (fun b => k 3223 b (by omega)), by rw [k 312 8 (by omega)]; exact g8.1, by rw [k 312 0 (by omega)]; exact g8.2⟩
theorem L_feed {fu : Nat} (hfu : 8589934592 ≤ fu) {s : z_M} (h : y_LX s) (t6 : y_I6 s) (t7 : y_J7 s) {n8 : Int} (t8 : y_J8 n8 s) (hn : n8 ≤ 4000) (p1 : Int) (p2 : Int) (p3 : Int) (p4 : Int) (p5 : Int) (b1 : -2147483648 ≤ p1 ∧ p1 ≤ 2147483647) (b2 : -2147483648 ≤ p2 ∧ p2 ≤ 2147483647) (b3 : -2147483648 ≤ p3 ∧ p3 ≤ 2147483647) (b4 : -2147483648 ≤ p4 ∧ p4 ≤ 2147483647) (b5 : -2147483648 ≤ p5 ∧ p5 ≤ 2147483647) : z_T (fX11_feed fu s 1 p1 p2 p3 p4 p5) (fun v s' => ∃ x, v = vI x ∧ (y_LC s s' ∧ y_JF s s' p1 p2 p3 p4 p5 x) ∧ (∀ j : Int, s' 3 j = s 3 j) ∧ y_Y4 s' ∧ y_K5 s s') := by
  refine T_mono (T_and (T_and (sf_X11_feed_1Y hfu s h.1 p1 p2 p3 p4 p5 b1 b2 b3 b4 b5 h.2.1 t7.2.2.2) (e_feed hfu (CI_b h.1 bd_1_12'))) (T_mono (sf_X11_feed_1Z hfu s h.1 p1 p2 p3 p4 p5 b1 b2 b3 b4 b5 h.2.1 t8.1) (fun v w h9 => (by first | exact h9.2.2.2.1 | exact h9.2.2.2.2.1 | exact h9.2.2.2.2.2.1 : y_Y5 w)))) (fun v s' hq => ?_)
  obtain ⟨hq, hz⟩ := hq
  obtain ⟨⟨c, f, hv, hy, x, rfl, q1, q2, tp⟩, g, g2⟩ := hq
  have cf : (∀ a b : Int, 309 ≤ a → a ≤ 7657 → s' a b = s a b) := fun a b q _ => f a b (by first | exact not_false | (unfold R_X11_feed_1; omega))
  have lc : y_LC s s' := ⟨c, hv, h.2.2.1.fr h.1 cf, h.2.2.2.1.keep cf, cf⟩
  have k5 : y_K5 s s' := ⟨hz, t8.2.1.fr (fun a b p => f a b (by first | exact not_false | (unfold R_X11_feed_1; omega))), by rw [f 296 9 (by first | exact not_false | (unfold R_X11_feed_1; omega))]; omega⟩
  have h3 : ∀ j : Int, s' 3 j = s 3 j := fun j => f 3 j (by first | exact not_false | (unfold R_X11_feed_1; omega))
  exact ⟨x, rfl, ⟨lc, g, g2⟩, h3, hy, k5⟩
theorem M_feed {fu : Nat} (hfu : 8589934592 ≤ fu) {s s1 : z_M} (h : y_LX s) (t6 : y_I6 s) (t7 : y_J7 s) (lc : y_LC s s1) (km : y_KM s1) (ym : y_YM s1) (p1 : Int) (p2 : Int) (p3 : Int) (p4 : Int) (p5 : Int) (b1 : -2147483648 ≤ p1 ∧ p1 ≤ 2147483647) (b2 : -2147483648 ≤ p2 ∧ p2 ≤ 2147483647) (b3 : -2147483648 ≤ p3 ∧ p3 ≤ 2147483647) (b4 : -2147483648 ≤ p4 ∧ p4 ≤ 2147483647) (b5 : -2147483648 ≤ p5 ∧ p5 ≤ 2147483647) {x : Int} (J : y_JF s s1 p1 p2 p3 p4 p5 x) : z_T (fX12_feed fu s1 309 p1 p2 p3 p4 p5) (fun v s' => ∃ y, v = vI y ∧ (y_LX s' ∧ x = y) ∧ (∀ a b : Int, a ≤ 308 ∨ a = 7658 ∨ a = 313 ∨ a = 314 → s' a b = s1 a b) ∧ (∀ j : Int, s' 312 j = s1 312 j) ∧ y_KM s' ∧ y_YM s') := by
  refine T_mono (T_and (T_and (sf_X12_feed_309 hfu s1 lc.1 p1 p2 p3 p4 p5 b1 b2 b3 b4 b5 lc.2.2.1.1 lc.2.2.1.2.1 lc.2.2.1.2.2.1 lc.2.2.1.2.2.2) (e_mfeed hfu (CI_b lc.1 bd_309_2q))) (T_mono (sf_X12_feed_309Y hfu s1 lc.1 p1 p2 p3 p4 p5 b1 b2 b3 b4 b5 lc.2.2.1.1 lc.2.2.1.2.1 lc.2.2.1.2.2.1 lc.2.2.1.2.2.2 ym) (fun v w h9 => (h9.2.2.2.2.2.2.1 : y_YM w)))) (fun v s' hq => ?_)
  obtain ⟨hq, yn⟩ := hq
  obtain ⟨⟨c, f, hA, hD, hB, hK, y, rfl, q1, q2, tp⟩, g⟩ := hq
  have hm : ∀ a b : Int, a ≤ 308 ∨ a = 7658 → s' a b = s1 a b := fun a b q => f a b (by first | exact not_false | (unfold R_X12_feed_309; omega))
  have hm3 : ∀ a b : Int, a ≤ 308 ∨ a = 7658 ∨ a = 313 ∨ a = 314 → s' a b = s1 a b := fun a b q => f a b (by first | exact not_false | (unfold R_X12_feed_309; omega))
  have hS : ∀ j : Int, s' 312 j = s1 312 j := fun j => f 312 j (by first | exact not_false | (unfold R_X12_feed_309; omega))
  have kn : y_KM s' := km.fr (f 309 20 (by first | exact not_false | (unfold R_X12_feed_309; omega))) (f 309 36 (by first | exact not_false | (unfold R_X12_feed_309; omega))) (f 309 38 (by first | exact not_false | (unfold R_X12_feed_309; omega))) (f 309 39 (by first | exact not_false | (unfold R_X12_feed_309; omega))) (fun b => f 312 b (by first | exact not_false | (unfold R_X12_feed_309; omega))) (fun b => f 331 b (by first | exact not_false | (unfold R_X12_feed_309; omega))) (fun b => f 346 b (by first | exact not_false | (unfold R_X12_feed_309; omega))) (fun b => f 361 b (by first | exact not_false | (unfold R_X12_feed_309; omega))) (fun b => f 391 b (by first | exact not_false | (unfold R_X12_feed_309; omega))) (fun a b q => f a b (by first | exact not_false | (unfold R_X12_feed_309; omega))) (fun a b q => f a b (by first | exact not_false | (unfold R_X12_feed_309; omega))) (fun a b q => f a b (by first | exact not_false | (unfold R_X12_feed_309; omega)))
  exact ⟨y, rfl, lc.feed h c ⟨hA, hD, hB, hK⟩ J g hm (fun a b q q2 => f a b (by first | exact not_false | (unfold R_X12_feed_309; omega))), hm3, hS, kn, yn⟩
theorem L_text {fu : Nat} (hfu : 8589934592 ≤ fu) {s : z_M} (h : y_LX s) (t6 : y_I6 s) (t7 : y_J7 s) {n8 : Int} (t8 : y_J8 n8 s) (hn : n8 ≤ 4000) (p1 : Int) (b1 : -2147483648 ≤ p1 ∧ p1 ≤ 2147483647) : z_T (fL_text fu s 1 p1 7658) (fun v s' => ∃ x, v = vI x ∧ (y_LC s s' ∧ y_JT (fun g => g 19 6 = 0 ∧ g 19 7 = 0 ∧ g 19 8 = 0) s s' p1 x) ∧ (∀ j : Int, s' 3 j = s 3 j) ∧ y_Y4 s' ∧ y_K5 s s') := by
  refine T_of (fL_text.eq_1 ..) ?_
  refine T_if1 (by decide +kernel) ?_
  refine T_cI (T_mono (T_and (T_and (sf_X11_text_1Y hfu s h.1 p1 b1 h.2.1 t7.2.2.2) (e_text hfu h.1 h.2.1.1.v)) (T_mono (sf_X11_text_1Z hfu s h.1 p1 b1 h.2.1 t8.1) (fun v w h9 => (by first | exact h9.2.2.2.1 | exact h9.2.2.2.2.1 | exact h9.2.2.2.2.2.1 : y_Y5 w)))) (fun v s' hq => ?_))
  obtain ⟨hq, hz⟩ := hq
  obtain ⟨⟨c, f, hv, tp, hy, hq⟩, g⟩ := hq
  have cf : (∀ a b : Int, 309 ≤ a → a ≤ 7657 → s' a b = s a b) := fun a b q _ => f a b (by first | exact not_false | (unfold R_X11_text_1; omega))
  have lc : y_LC s s' := ⟨c, hv, h.2.2.1.fr h.1 cf, h.2.2.2.1.keep cf, cf⟩
  have k5 : y_K5 s s' := ⟨hz, t8.2.1.fr (fun a b p => f a b (by first | exact not_false | (unfold R_X11_text_1; omega))), by rw [f 296 9 (by first | exact not_false | (unfold R_X11_text_1; omega))]; omega⟩
  have t5 : ∀ b, s' 5 b = s 5 b := fun b => f 5 b (by first | exact not_false | (unfold R_X11_text_1; omega))
  have h3 : ∀ j : Int, s' 3 j = s 3 j := fun j => f 3 j (by first | exact not_false | (unfold R_X11_text_1; omega))
  rcases hq with ⟨x, rfl, q1, q2⟩ | rfl
  · refine T_vcI ?_
    refine T_if1 (by decide +kernel) ?_
    refine T_up ?_
    exact T_ret ⟨_, rfl, ⟨lc.out (by omega), _, s', fun a b q => z_up_k (by omega), g, Or.inr ⟨_, rfl, rfl, z_up_s⟩, by rw [z_up_k (by decide)]; exact tp, fun b => by rw [z_up_k (by decide)]; exact t5 b⟩, fun j => (z_up_k (by decide)).trans (h3 j), hy.cls (fun a b q => z_up_k (by omega)), k5.out⟩
  · refine T_v1I ?_
    exact T_ret ⟨_, rfl, ⟨lc, _, s', fun _ _ _ => rfl, g, Or.inl ⟨rfl, rfl⟩, tp, t5⟩, h3, hy, k5⟩
theorem M_text {fu : Nat} (hfu : 8589934592 ≤ fu) {s s1 : z_M} (h : y_LX s) (t6 : y_I6 s) (t7 : y_J7 s) (lc : y_LC s s1) (km : y_KM s1) (ym : y_YM s1) (p1 : Int) (b1 : -2147483648 ≤ p1 ∧ p1 ≤ 2147483647) {x : Int} (J : y_JT (fun g => g 19 6 = 0 ∧ g 19 7 = 0 ∧ g 19 8 = 0) s s1 p1 x) : z_T (fX12_text fu s1 309 p1) (fun v s' => ∃ y, v = vI y ∧ (y_LX s' ∧ y_JTM s' x y) ∧ (∀ a b : Int, a ≤ 308 ∨ a = 7658 ∨ a = 313 ∨ a = 314 → s' a b = s1 a b) ∧ (∀ j : Int, s' 312 j = s1 312 j) ∧ y_KM s' ∧ y_YM s') := by
  refine T_mono (T_and (T_and (sf_X12_text_309T hfu s1 lc.1 p1 b1 lc.2.2.1.2.1 lc.2.2.1.1 lc.2.2.1.2.2.1 lc.2.2.1.2.2.2 lc.2.2.2.1) (T_mono (sf_X12_text_309K hfu s1 lc.1 p1 b1 lc.2.2.1.2.1 lc.2.2.1.1 lc.2.2.1.2.2.1 lc.2.2.1.2.2.2 km) (fun v w h9 => (h9.2.2.2.2.2.2.2.1 : y_KM w)))) (T_mono (sf_X12_text_309Y hfu s1 lc.1 p1 b1 lc.2.2.1.2.1 lc.2.2.1.1 lc.2.2.1.2.2.1 lc.2.2.1.2.2.2 km ym) (fun v w h9 => (h9.2.2.2.2.2.2.2.2.1 : y_YM w)))) (fun v s' hq => ?_)
  obtain ⟨hq, yn⟩ := hq
  obtain ⟨hq, kn⟩ := hq
  obtain ⟨c, f, hD, tp, hA, hB, hK, hP, th, y, rfl, q1, q2, z⟩ := hq
  have hm : ∀ a b : Int, a ≤ 308 ∨ a = 7658 → s' a b = s1 a b := fun a b q => f a b (by first | exact not_false | (unfold R_X12_text_309; omega))
  have hm3 : ∀ a b : Int, a ≤ 308 ∨ a = 7658 ∨ a = 313 ∨ a = 314 → s' a b = s1 a b := fun a b q => f a b (by first | exact not_false | (unfold R_X12_text_309; omega))
  have hS : ∀ j : Int, s' 312 j = s1 312 j := fun j => f 312 j (by first | exact not_false | (unfold R_X12_text_309; omega))
  have m5 : ∀ b, s' 311 b = s1 311 b := fun b => f 311 b (by first | exact not_false | (unfold R_X12_text_309; omega))
  have mi : y_MI s' := ⟨hA, hD, hB, hK⟩
  have v16 : y_V3 s' := lc.2.1.cls (fun a b q => hm a b (Or.inl q))
  obtain ⟨v0, s0, f0, C, hx, tp1, t5⟩ := J
  have j := j_text h.2.2.2.2 h.1 hP lc.2.2.2.2 hm f0 C hx tp1 tp t5 m5 th z
  exact ⟨y, rfl, ⟨⟨c, v16, mi, hP, j.1⟩, j.2⟩, hm3, hS, kn, yn⟩
theorem L_more {fu : Nat} (hfu : 8589934592 ≤ fu) {s : z_M} (h : y_LX s) (t6 : y_I6 s) (t7 : y_J7 s) {n8 : Int} (t8 : y_J8 n8 s) (hn : n8 ≤ 4000) (p1 : Int) (b1 : -2147483648 ≤ p1 ∧ p1 ≤ 2147483647) : z_T (fL_more fu s 1 p1 7658) (fun v s' => ∃ x, v = vI x ∧ (y_LC s s' ∧ y_JT (fun g => y_TE s g 19 6) s s' p1 x) ∧ (∀ j : Int, s' 3 j = s 3 j) ∧ y_Y4 s' ∧ y_K5 s s') := by
  refine T_of (fL_more.eq_1 ..) ?_
  refine T_if1 (by decide +kernel) ?_
  refine T_cI (T_mono (T_and (T_and (sf_X11_more_1Y hfu s h.1 p1 b1 h.2.1 t7.2.2.2) (e_more hfu h.1 h.2.1.1.v)) (T_mono (sf_X11_more_1Z hfu s h.1 p1 b1 h.2.1 t8.1) (fun v w h9 => (by first | exact h9.2.2.2.1 | exact h9.2.2.2.2.1 | exact h9.2.2.2.2.2.1 : y_Y5 w)))) (fun v s' hq => ?_))
  obtain ⟨hq, hz⟩ := hq
  obtain ⟨⟨c, f, hv, tp, hy, hq⟩, g⟩ := hq
  have cf : (∀ a b : Int, 309 ≤ a → a ≤ 7657 → s' a b = s a b) := fun a b q _ => f a b (by first | exact not_false | (unfold R_X11_more_1; omega))
  have lc : y_LC s s' := ⟨c, hv, h.2.2.1.fr h.1 cf, h.2.2.2.1.keep cf, cf⟩
  have k5 : y_K5 s s' := ⟨hz, t8.2.1.fr (fun a b p => f a b (by first | exact not_false | (unfold R_X11_more_1; omega))), by rw [f 296 9 (by first | exact not_false | (unfold R_X11_more_1; omega))]; omega⟩
  have t5 : ∀ b, s' 5 b = s 5 b := fun b => f 5 b (by first | exact not_false | (unfold R_X11_more_1; omega))
  have h3 : ∀ j : Int, s' 3 j = s 3 j := fun j => f 3 j (by first | exact not_false | (unfold R_X11_more_1; omega))
  rcases hq with ⟨x, rfl, q1, q2⟩ | rfl
  · refine T_vcI ?_
    refine T_if1 (by decide +kernel) ?_
    refine T_up ?_
    exact T_ret ⟨_, rfl, ⟨lc.out (by omega), _, s', fun a b q => z_up_k (by omega), g, Or.inr ⟨_, rfl, rfl, z_up_s⟩, by rw [z_up_k (by decide)]; exact tp, fun b => by rw [z_up_k (by decide)]; exact t5 b⟩, fun j => (z_up_k (by decide)).trans (h3 j), hy.cls (fun a b q => z_up_k (by omega)), k5.out⟩
  · refine T_v1I ?_
    exact T_ret ⟨_, rfl, ⟨lc, _, s', fun _ _ _ => rfl, g, Or.inl ⟨rfl, rfl⟩, tp, t5⟩, h3, hy, k5⟩
theorem M_more {fu : Nat} (hfu : 8589934592 ≤ fu) {s s1 : z_M} (h : y_LX s) (t6 : y_I6 s) (t7 : y_J7 s) (lc : y_LC s s1) (km : y_KM s1) (ym : y_YM s1) (p1 : Int) (b1 : -2147483648 ≤ p1 ∧ p1 ≤ 2147483647) {x : Int} (J : y_JT (fun g => y_TE s g 19 6) s s1 p1 x) : z_T (fX12_more_ fu s1 309 p1) (fun v s' => ∃ y, v = vI y ∧ (y_LX s' ∧ y_JTM s' x y) ∧ (∀ a b : Int, a ≤ 308 ∨ a = 7658 ∨ a = 313 ∨ a = 314 → s' a b = s1 a b) ∧ (∀ j : Int, s' 312 j = s1 312 j) ∧ y_KM s' ∧ y_YM s') := by
  refine T_mono (T_and (T_and (sf_X12_more__309T hfu s1 lc.1 p1 b1 lc.2.2.1.2.1 lc.2.2.1.1 lc.2.2.1.2.2.1 lc.2.2.1.2.2.2 lc.2.2.2.1) (T_mono (sf_X12_more__309K hfu s1 lc.1 p1 b1 lc.2.2.1.2.1 lc.2.2.1.1 lc.2.2.1.2.2.1 lc.2.2.1.2.2.2 km) (fun v w h9 => (h9.2.2.2.2.2.2.2.1 : y_KM w)))) (T_mono (sf_X12_more__309Y hfu s1 lc.1 p1 b1 lc.2.2.1.2.1 lc.2.2.1.1 lc.2.2.1.2.2.1 lc.2.2.1.2.2.2 km ym) (fun v w h9 => (h9.2.2.2.2.2.2.2.2.1 : y_YM w)))) (fun v s' hq => ?_)
  obtain ⟨hq, yn⟩ := hq
  obtain ⟨hq, kn⟩ := hq
  obtain ⟨c, f, hD, tp, hA, hB, hK, hP, th, y, rfl, q1, q2, z⟩ := hq
  have hm : ∀ a b : Int, a ≤ 308 ∨ a = 7658 → s' a b = s1 a b := fun a b q => f a b (by first | exact not_false | (unfold R_X12_more__309; omega))
  have hm3 : ∀ a b : Int, a ≤ 308 ∨ a = 7658 ∨ a = 313 ∨ a = 314 → s' a b = s1 a b := fun a b q => f a b (by first | exact not_false | (unfold R_X12_more__309; omega))
  have hS : ∀ j : Int, s' 312 j = s1 312 j := fun j => f 312 j (by first | exact not_false | (unfold R_X12_more__309; omega))
  have m5 : ∀ b, s' 311 b = s1 311 b := fun b => f 311 b (by first | exact not_false | (unfold R_X12_more__309; omega))
  have mi : y_MI s' := ⟨hA, hD, hB, hK⟩
  have v16 : y_V3 s' := lc.2.1.cls (fun a b q => hm a b (Or.inl q))
  obtain ⟨v0, s0, f0, C, hx, tp1, t5⟩ := J
  have j := j_more h.2.2.2.2 h.1 hP lc.2.2.2.2 hm f0 C hx tp1 tp t5 m5 th z
  exact ⟨y, rfl, ⟨⟨c, v16, mi, hP, j.1⟩, j.2⟩, hm3, hS, kn, yn⟩
theorem L_fault {fu : Nat} (hfu : 8589934592 ≤ fu) {s : z_M} (h : y_LX s) (t6 : y_I6 s) (t7 : y_J7 s) {n8 : Int} (t8 : y_J8 n8 s) (hn : n8 ≤ 4000) : z_T (fX11_fault fu s 1) (fun v s' => ∃ x, v = vI x ∧ (y_LC s s' ∧ x = s 1 13 ∧ y_SC s s') ∧ (∀ j : Int, s' 3 j = s 3 j) ∧ y_Y4 s' ∧ y_K5 s s') := by
  refine T_mono (T_and (T_and (sf_X11_fault_1Y hfu s h.1 h.2.1 t7.2.2.2) (e_fault hfu)) (T_mono (sf_X11_fault_1Z hfu s h.1 h.2.1 t8.1) (fun v w h9 => (by first | exact h9.2.2.2.1 | exact h9.2.2.2.2.1 | exact h9.2.2.2.2.2.1 : y_Y5 w)))) (fun v s' hq => ?_)
  obtain ⟨hq, hz⟩ := hq
  obtain ⟨⟨c, f, hv, hy, x, rfl, q1, q2⟩, g, _⟩ := hq
  have cf : (∀ a b : Int, 309 ≤ a → a ≤ 7657 → s' a b = s a b) := fun a b q _ => f a b (by first | exact not_false | (unfold R_X11_fault_1; omega))
  have lc : y_LC s s' := ⟨c, hv, h.2.2.1.fr h.1 cf, h.2.2.2.1.keep cf, cf⟩
  have k5 : y_K5 s s' := ⟨hz, t8.2.1.fr (fun a b p => f a b (by first | exact not_false | (unfold R_X11_fault_1; omega))), by rw [f 296 9 (by first | exact not_false | (unfold R_X11_fault_1; omega))]; omega⟩
  have sc : y_SC s s' := fun a b q => f a b (by unfold y_SK0 at q; first | exact not_false | (unfold R_X11_fault_1; omega))
  have h3 : ∀ j : Int, s' 3 j = s 3 j := fun j => f 3 j (by first | exact not_false | (unfold R_X11_fault_1; omega))
  exact ⟨x, rfl, ⟨lc, congrArg Prod.snd g, sc⟩, h3, hy, k5⟩
theorem M_fault {fu : Nat} (hfu : 8589934592 ≤ fu) {s s1 : z_M} (h : y_LX s) (t6 : y_I6 s) (t7 : y_J7 s) (lc : y_LC s s1) (km : y_KM s1) (ym : y_YM s1) {x : Int} (J : x = s 1 13 ∧ y_SC s s1) : z_T (fX12_fault fu s1 309) (fun v s' => ∃ y, v = vI y ∧ (y_LX s' ∧ x = y) ∧ (∀ a b : Int, a ≤ 308 ∨ a = 7658 ∨ a = 313 ∨ a = 314 → s' a b = s1 a b) ∧ (∀ j : Int, s' 312 j = s1 312 j) ∧ y_KM s' ∧ y_YM s') := by
  refine T_mono (T_and (T_and (sf_X12_fault_309 hfu s1 lc.1 lc.2.2.1.1 lc.2.2.1.2.1 lc.2.2.1.2.2.1 lc.2.2.1.2.2.2) e_mfault) (T_mono (sf_X12_fault_309Y hfu s1 lc.1 lc.2.2.1.1 lc.2.2.1.2.1 lc.2.2.1.2.2.1 lc.2.2.1.2.2.2 ym) (fun v w h9 => (h9.2.2.2.2.2.2.1 : y_YM w)))) (fun v s' hq => ?_)
  obtain ⟨hq, yn⟩ := hq
  obtain ⟨⟨c, f, hA, hD, hB, hK, y, rfl, q1, q2⟩, g⟩ := hq
  have hm : ∀ a b : Int, a ≤ 308 ∨ a = 7658 → s' a b = s1 a b := fun a b q => f a b (by first | exact not_false | (unfold R_X12_fault_309; omega))
  have hm3 : ∀ a b : Int, a ≤ 308 ∨ a = 7658 ∨ a = 313 ∨ a = 314 → s' a b = s1 a b := fun a b q => f a b (by first | exact not_false | (unfold R_X12_fault_309; omega))
  have hS : ∀ j : Int, s' 312 j = s1 312 j := fun j => f 312 j (by first | exact not_false | (unfold R_X12_fault_309; omega))
  have kn : y_KM s' := km.fr (f 309 20 (by first | exact not_false | (unfold R_X12_fault_309; omega))) (f 309 36 (by first | exact not_false | (unfold R_X12_fault_309; omega))) (f 309 38 (by first | exact not_false | (unfold R_X12_fault_309; omega))) (f 309 39 (by first | exact not_false | (unfold R_X12_fault_309; omega))) (fun b => f 312 b (by first | exact not_false | (unfold R_X12_fault_309; omega))) (fun b => f 331 b (by first | exact not_false | (unfold R_X12_fault_309; omega))) (fun b => f 346 b (by first | exact not_false | (unfold R_X12_fault_309; omega))) (fun b => f 361 b (by first | exact not_false | (unfold R_X12_fault_309; omega))) (fun b => f 391 b (by first | exact not_false | (unfold R_X12_fault_309; omega))) (fun a b q => f a b (by first | exact not_false | (unfold R_X12_fault_309; omega))) (fun a b q => f a b (by first | exact not_false | (unfold R_X12_fault_309; omega))) (fun a b q => f a b (by first | exact not_false | (unfold R_X12_fault_309; omega)))
  have hk : ∀ a b : Int, y_KK a b → s' a b = s1 a b := fun a b q => by
    unfold y_KK at q
    exact f a b (by first | exact not_false | (unfold R_X12_fault_309; omega))
  have lx := lc.nm h J.2 c ⟨hA, hD, hB, hK⟩ hm hk
  refine ⟨y, rfl, ⟨lx, ?_⟩, hm3, hS, kn, yn⟩
  have e := congrArg Prod.snd g
  have e2 : y = s1 309 5 := e
  rw [e2, lc.2.2.2.2 _ _ (by decide) (by decide), J.1]; exact h.2.2.2.2.2.2.2
theorem L_set {fu : Nat} (hfu : 8589934592 ≤ fu) {s : z_M} (h : y_LX s) (t6 : y_I6 s) (t7 : y_J7 s) {n8 : Int} (t8 : y_J8 n8 s) (hn : n8 ≤ 4000) (p1 : Int) (p2 : Int) (b1 : -2147483648 ≤ p1 ∧ p1 ≤ 2147483647) (b2 : -2147483648 ≤ p2 ∧ p2 ≤ 2147483647) : z_T (fL_set fu s 1 p1 p2 7658) (fun v s' => ∃ x, v = vI x ∧ (y_LC s s' ∧ y_SC s s') ∧ ((x = 0 ∧ y_SG p1 p2 ∧ s' 7658 0 = s 3 p1 ∧ s' 3 p1 = p2 ∧ ∀ j : Int, j ≠ p1 → s' 3 j = s 3 j) ∨ (x = 1 ∧ ¬ y_SG p1 p2 ∧ ∀ j : Int, s' 3 j = s 3 j)) ∧ y_Y4 s' ∧ y_K5 s s') := by
  refine T_of (fL_set.eq_1 ..) ?_
  refine T_if1 (by decide +kernel) ?_
  refine T_cI (T_mono (T_and (T_and (sf_X11_set_1Y hfu s h.1 p1 p2 b1 b2 h.2.1 t7.len t7.2.2.2) (sf_X11_set_1S hfu s h.1 p1 p2 b1 b2 h.2.1.1.v.z)) (T_mono (sf_X11_set_1Z hfu s h.1 p1 p2 b1 b2 h.2.1 t7.len t8.1) (fun v w h9 => (by first | exact h9.2.2.2.1 | exact h9.2.2.2.2.1 | exact h9.2.2.2.2.2.1 : y_Y5 w)))) (fun v s' hq => ?_))
  obtain ⟨hq, hz⟩ := hq
  obtain ⟨⟨c, f, hv, hy, hq⟩, _, _, _, hs⟩ := hq
  have cf : (∀ a b : Int, 309 ≤ a → a ≤ 7657 → s' a b = s a b) := fun a b q _ => f a b (by first | exact not_false | (unfold R_X11_set_1; omega))
  have lc : y_LC s s' := ⟨c, hv, h.2.2.1.fr h.1 cf, h.2.2.2.1.keep cf, cf⟩
  have k5 : y_K5 s s' := ⟨hz, t8.2.1.fr (fun a b p => f a b (by first | exact not_false | (unfold R_X11_set_1; omega))), by rw [f 296 9 (by first | exact not_false | (unfold R_X11_set_1; omega))]; omega⟩
  have sc : y_SC s s' := fun a b q => f a b (by unfold y_SK0 at q; first | exact not_false | (unfold R_X11_set_1; omega))
  rcases hq with ⟨x, rfl, q1, q2⟩ | rfl
  · refine T_vcI ?_
    refine T_if1 (by decide +kernel) ?_
    refine T_up ?_
    exact T_ret ⟨_, rfl, ⟨lc.out (by omega), sc.out⟩, y_S3i hs, hy.cls (fun a b q => z_up_k (by omega)), k5.out⟩
  · refine T_v1I ?_
    exact T_ret ⟨_, rfl, ⟨lc, sc⟩, y_S3x hs, hy, k5⟩
theorem M_set {fu : Nat} (hfu : 8589934592 ≤ fu) {s s1 : z_M} (h : y_LX s) (t6 : y_I6 s) (t7 : y_J7 s) (lc : y_LC s s1) (km : y_KM s1) (ym : y_YM s1) (p1 : Int) (p2 : Int) (b1 : -2147483648 ≤ p1 ∧ p1 ≤ 2147483647) (b2 : -2147483648 ≤ p2 ∧ p2 ≤ 2147483647) (sc : y_SC s s1) : z_T (fX12_set fu s1 309 p1 p2) (fun v s' => ∃ y, v = vI y ∧ (y_LX s') ∧ (∀ a b : Int, a ≤ 308 ∨ a = 7658 ∨ a = 313 ∨ a = 314 → s' a b = s1 a b) ∧ (y_MS s1 s' p1 p2 y) ∧ y_KM s' ∧ y_YM s') := by
  refine T_mono (T_and (T_and (sf_X12_set_309T hfu s1 lc.1 p1 p2 b1 b2 lc.2.2.1.1 lc.2.2.1.2.1 lc.2.2.1.2.2.1 lc.2.2.1.2.2.2) (T_mono (sf_X12_set_309K hfu s1 lc.1 p1 p2 b1 b2 lc.2.2.1.1 lc.2.2.1.2.1 lc.2.2.1.2.2.1 lc.2.2.1.2.2.2 km) (fun v w h9 => (h9.2.2.2.2.2.2.1 : y_KM w)))) (T_mono (sf_X12_set_309Y hfu s1 lc.1 p1 p2 b1 b2 lc.2.2.1.1 lc.2.2.1.2.1 lc.2.2.1.2.2.1 lc.2.2.1.2.2.2 km ym) (fun v w h9 => (h9.2.2.2.2.2.2.2.1 : y_YM w)))) (fun v s' hq => ?_)
  obtain ⟨hq, yn⟩ := hq
  obtain ⟨hq, kn⟩ := hq
  obtain ⟨c, f, hA, hD, hB, hK, k1, y, rfl, q1, q2, hS⟩ := hq
  have hm : ∀ a b : Int, a ≤ 308 ∨ a = 7658 → s' a b = s1 a b := fun a b q => f a b (by first | exact not_false | (unfold R_X12_set_309; omega))
  have hm3 : ∀ a b : Int, a ≤ 308 ∨ a = 7658 ∨ a = 313 ∨ a = 314 → s' a b = s1 a b := fun a b q => f a b (by first | exact not_false | (unfold R_X12_set_309; omega))
  have hk : ∀ a b : Int, y_KK a b → s' a b = s1 a b := fun a b q => by
    unfold y_KK at q
    by_cases q9 : a = 311
    · subst q9; exact k1 b
    · exact f a b (by first | exact not_false | (unfold R_X12_set_309; omega))
  exact ⟨y, rfl, lc.nm h sc c ⟨hA, hD, hB, hK⟩ hm hk, hm3, hS, kn, yn⟩
theorem L_cut {fu : Nat} (hfu : 8589934592 ≤ fu) {s : z_M} (h : y_LX s) (t6 : y_I6 s) (t7 : y_J7 s) {n8 : Int} (t8 : y_J8 n8 s) (hn : n8 ≤ 4000) (p1 : Int) (p2 : Int) (b1 : -2147483648 ≤ p1 ∧ p1 ≤ 2147483647) (b2 : -2147483648 ≤ p2 ∧ p2 ≤ 2147483647) : z_T (fL_cut fu s 1 p1 p2 7658) (fun v s' => ∃ x, v = vI x ∧ (y_LC s s' ∧ y_JC s s' p1 p2 x) ∧ (∀ j : Int, s' 3 j = s 3 j) ∧ y_Y4 s' ∧ y_K5 s s') := by
  refine T_of (fL_cut.eq_1 ..) ?_
  refine T_if1 (by decide +kernel) ?_
  refine T_cI (T_mono (T_and (T_and (sf_X11_cut_1Y hfu s h.1 p1 p2 b1 b2 h.2.1 t7.2.2.2) (e_cut hfu h.1 h.2.1.1.v)) (T_mono (sf_X11_cut_1Z hfu s h.1 p1 p2 b1 b2 h.2.1 t8.1) (fun v w h9 => (by first | exact h9.2.2.2.1 | exact h9.2.2.2.2.1 | exact h9.2.2.2.2.2.1 : y_Y5 w)))) (fun v s' hq => ?_))
  obtain ⟨hq, hz⟩ := hq
  obtain ⟨⟨c, f, hv, hy, hq⟩, g⟩ := hq
  have cf : (∀ a b : Int, 309 ≤ a → a ≤ 7657 → s' a b = s a b) := fun a b q _ => f a b (by first | exact not_false | (unfold R_X11_cut_1; omega))
  have lc : y_LC s s' := ⟨c, hv, h.2.2.1.fr h.1 cf, h.2.2.2.1.keep cf, cf⟩
  have k5 : y_K5 s s' := ⟨hz, t8.2.1.fr (fun a b p => f a b (by first | exact not_false | (unfold R_X11_cut_1; omega))), by rw [f 296 9 (by first | exact not_false | (unfold R_X11_cut_1; omega))]; omega⟩
  have t5 : ∀ b, s' 5 b = s 5 b := fun b => f 5 b (by first | exact not_false | (unfold R_X11_cut_1; omega))
  have tp : s' 1 12 = s 1 12 := f 1 12 (by first | exact not_false | (unfold R_X11_cut_1; omega))
  have h3 : ∀ j : Int, s' 3 j = s 3 j := fun j => f 3 j (by first | exact not_false | (unfold R_X11_cut_1; omega))
  rcases hq with ⟨x, rfl, q1, q2⟩ | rfl | rfl
  · refine T_vcI ?_
    refine T_if1 (by decide +kernel) ?_
    refine T_up ?_
    exact T_ret ⟨_, rfl, ⟨lc.out (by omega), _, s', fun a b q => z_up_k (by omega), g, Or.inr (Or.inr ⟨_, rfl, rfl, z_up_s⟩), by rw [z_up_k (by decide)]; exact tp, fun b => by rw [z_up_k (by decide)]; exact t5 b⟩, fun j => (z_up_k (by decide)).trans (h3 j), hy.cls (fun a b q => z_up_k (by omega)), k5.out⟩
  · refine T_v0I ?_
    exact T_ret ⟨_, rfl, ⟨lc, _, s', fun _ _ _ => rfl, g, Or.inl ⟨rfl, rfl⟩, tp, t5⟩, h3, hy, k5⟩
  · refine T_v1I ?_
    exact T_ret ⟨_, rfl, ⟨lc, _, s', fun _ _ _ => rfl, g, Or.inr (Or.inl ⟨rfl, rfl⟩), tp, t5⟩, h3, hy, k5⟩
theorem M_cut {fu : Nat} (hfu : 8589934592 ≤ fu) {s s1 : z_M} (h : y_LX s) (t6 : y_I6 s) (t7 : y_J7 s) (lc : y_LC s s1) (km : y_KM s1) (ym : y_YM s1) (p1 : Int) (p2 : Int) (b1 : -2147483648 ≤ p1 ∧ p1 ≤ 2147483647) (b2 : -2147483648 ≤ p2 ∧ p2 ≤ 2147483647) {x : Int} (J : y_JC s s1 p1 p2 x) : z_T (fX12_cut fu s1 309 p1 p2) (fun v s' => ∃ y, v = vI y ∧ (y_LX s' ∧ y_JTM s' x y) ∧ (∀ a b : Int, a ≤ 308 ∨ a = 7658 ∨ a = 313 ∨ a = 314 → s' a b = s1 a b) ∧ (∀ j : Int, s' 312 j = s1 312 j) ∧ y_KM s' ∧ y_YM s') := by
  refine T_mono (T_and (T_and (sf_X12_cut_309T hfu s1 lc.1 p1 p2 b1 b2 lc.2.2.1.1 lc.2.2.1.2.1 lc.2.2.1.2.2.1 lc.2.2.1.2.2.2 lc.2.2.2.1 ((h.2.2.2.2.1.1.WF).fr (lc.2.2.2.2 316 0 (by decide) (by decide)) (fun b => lc.2.2.2.2 346 b (by decide) (by decide)) (fun b => lc.2.2.2.2 361 b (by decide) (by decide)))) (T_mono (sf_X12_cut_309K hfu s1 lc.1 p1 p2 b1 b2 lc.2.2.1.1 lc.2.2.1.2.1 lc.2.2.1.2.2.1 lc.2.2.1.2.2.2 km) (fun v w h9 => (h9.2.2.2.2.2.2.1 : y_KM w)))) (T_mono (sf_X12_cut_309Y hfu s1 lc.1 p1 p2 b1 b2 lc.2.2.1.1 lc.2.2.1.2.1 lc.2.2.1.2.2.1 lc.2.2.1.2.2.2 km ym) (fun v w h9 => (h9.2.2.2.2.2.2.2.1 : y_YM w)))) (fun v s' hq => ?_)
  obtain ⟨hq, yn⟩ := hq
  obtain ⟨hq, kn⟩ := hq
  obtain ⟨c, f, hA, hD, hB, hK, hP, h5, th, y, rfl, q1, q2, z⟩ := hq
  have hm : ∀ a b : Int, a ≤ 308 ∨ a = 7658 → s' a b = s1 a b := fun a b q => f a b (by first | exact not_false | (unfold R_X12_cut_309; omega))
  have hm3 : ∀ a b : Int, a ≤ 308 ∨ a = 7658 ∨ a = 313 ∨ a = 314 → s' a b = s1 a b := fun a b q => f a b (by first | exact not_false | (unfold R_X12_cut_309; omega))
  have hS : ∀ j : Int, s' 312 j = s1 312 j := fun j => f 312 j (by first | exact not_false | (unfold R_X12_cut_309; omega))
  have m5 : ∀ b, s' 311 b = s1 311 b := fun b => f 311 b (by first | exact not_false | (unfold R_X12_cut_309; omega))
  have mi : y_MI s' := ⟨hA, hD, hB, hK⟩
  have v16 : y_V3 s' := lc.2.1.cls (fun a b q => hm a b (Or.inl q))
  obtain ⟨v0, s0, f0, C, hx, tp1, t5⟩ := J
  have j := j_cut h.2.2.2.2 h.1 h.2.2.2.1 hP lc.2.2.2.2 hm f0 C hx tp1 t5 (f 309 2 (by first | exact not_false | (unfold R_X12_cut_309; omega))) h5 m5 th z
  exact ⟨y, rfl, ⟨⟨c, v16, mi, hP, j.1⟩, j.2⟩, hm3, hS, kn, yn⟩
theorem L_undo {fu : Nat} (hfu : 8589934592 ≤ fu) {s : z_M} (h : y_LX s) (t6 : y_I6 s) (t7 : y_J7 s) {n8 : Int} (t8 : y_J8 n8 s) (hn : n8 ≤ 4000) : z_T (fX11_undo fu s 1) (fun v s' => ∃ x, v = vI x ∧ (y_LC s s' ∧ y_JU s s' x) ∧ (∀ j : Int, s' 3 j = s 3 j) ∧ y_Y4 s' ∧ y_K5 s s') := by
  refine T_mono (T_and (T_and (sf_X11_undo_1Y hfu s h.1 h.2.1 t7.2.2.2) (e_undo hfu h.1)) (T_mono (sf_X11_undo_1Z hfu s h.1 h.2.1 t8.1) (fun v w h9 => (by first | exact h9.2.2.2.1 | exact h9.2.2.2.2.1 | exact h9.2.2.2.2.2.1 : y_Y5 w)))) (fun v s' hq => ?_)
  obtain ⟨hq, hz⟩ := hq
  obtain ⟨⟨c, f, hv, hy, x, rfl, q1, q2⟩, g⟩ := hq
  have cf : (∀ a b : Int, 309 ≤ a → a ≤ 7657 → s' a b = s a b) := fun a b q _ => f a b (by first | exact not_false | (unfold R_X11_undo_1; omega))
  have lc : y_LC s s' := ⟨c, hv, h.2.2.1.fr h.1 cf, h.2.2.2.1.keep cf, cf⟩
  have k5 : y_K5 s s' := ⟨hz, t8.2.1.fr (fun a b p => f a b (by first | exact not_false | (unfold R_X11_undo_1; omega))), by rw [f 296 9 (by first | exact not_false | (unfold R_X11_undo_1; omega))]; omega⟩
  have h3 : ∀ j : Int, s' 3 j = s 3 j := fun j => f 3 j (by first | exact not_false | (unfold R_X11_undo_1; omega))
  exact ⟨x, rfl, ⟨lc, g, f 1 12 (by first | exact not_false | (unfold R_X11_undo_1; omega)), fun b => f 5 b (by first | exact not_false | (unfold R_X11_undo_1; omega))⟩, h3, hy, k5⟩
theorem M_undo {fu : Nat} (hfu : 8589934592 ≤ fu) {s s1 : z_M} (h : y_LX s) (t6 : y_I6 s) (t7 : y_J7 s) (lc : y_LC s s1) (km : y_KM s1) (ym : y_YM s1) {x : Int} (J : y_JU s s1 x) : z_T (fX12_undo fu s1 309) (fun v s' => ∃ y, v = vI y ∧ (y_LX s' ∧ x = y) ∧ (∀ a b : Int, a ≤ 308 ∨ a = 7658 ∨ a = 313 ∨ a = 314 → s' a b = s1 a b) ∧ (∀ j : Int, s' 312 j = s1 312 j) ∧ y_KM s' ∧ y_YM s') := by
  refine T_mono (T_and (T_and (sf_X12_undo_309T hfu s1 lc.1 lc.2.2.1.1 lc.2.2.1.2.1 lc.2.2.1.2.2.1 lc.2.2.1.2.2.2 lc.2.2.2.1) (T_mono (sf_X12_undo_309K hfu s1 lc.1 lc.2.2.1.1 lc.2.2.1.2.1 lc.2.2.1.2.2.1 lc.2.2.1.2.2.2 km) (fun v w h9 => (h9.2.2.2.2.2.2.1 : y_KM w)))) (T_mono (sf_X12_undo_309Y hfu s1 lc.1 lc.2.2.1.1 lc.2.2.1.2.1 lc.2.2.1.2.2.1 lc.2.2.1.2.2.2 km ym) (fun v w h9 => (h9.2.2.2.2.2.2.2.1 : y_YM w)))) (fun v s' hq => ?_)
  obtain ⟨hq, yn⟩ := hq
  obtain ⟨hq, kn⟩ := hq
  obtain ⟨c, f, hA, hD, hB, hK, hP, y, rfl, q1, q2, z⟩ := hq
  have hm : ∀ a b : Int, a ≤ 308 ∨ a = 7658 → s' a b = s1 a b := fun a b q => f a b (by first | exact not_false | (unfold R_X12_undo_309; omega))
  have hm3 : ∀ a b : Int, a ≤ 308 ∨ a = 7658 ∨ a = 313 ∨ a = 314 → s' a b = s1 a b := fun a b q => f a b (by first | exact not_false | (unfold R_X12_undo_309; omega))
  have hS : ∀ j : Int, s' 312 j = s1 312 j := fun j => f 312 j (by first | exact not_false | (unfold R_X12_undo_309; omega))
  have m5 : ∀ b, s' 311 b = s1 311 b := fun b => f 311 b (by first | exact not_false | (unfold R_X12_undo_309; omega))
  have mi : y_MI s' := ⟨hA, hD, hB, hK⟩
  have v16 : y_V3 s' := lc.2.1.cls (fun a b q => hm a b (Or.inl q))
  obtain ⟨C, tp1, t5⟩ := J
  have j := j_undo h.2.2.2.2 h.1 hP lc.2.2.2.2 (fun a b q => hm a b (Or.inl q)) C tp1 t5 (f 309 2 (by first | exact not_false | (unfold R_X12_undo_309; omega))) (f 309 5 (by first | exact not_false | (unfold R_X12_undo_309; omega))) m5 z
  exact ⟨y, rfl, ⟨⟨c, v16, mi, hP, j.1⟩, j.2⟩, hm3, hS, kn, yn⟩
theorem L_told {fu : Nat} (hfu : 8589934592 ≤ fu) {s : z_M} (h : y_LX s) (t6 : y_I6 s) (t7 : y_J7 s) {n8 : Int} (t8 : y_J8 n8 s) (hn : n8 ≤ 4000) (p1 : Int) (b1 : -2147483648 ≤ p1 ∧ p1 ≤ 2147483647) : z_T (fL_told fu s 1 p1 7658) (fun v s' => ∃ x, v = vI x ∧ (y_LC s s' ∧ y_SC s s') ∧ (∀ j : Int, s' 3 j = s 3 j) ∧ y_Y4 s' ∧ y_K5 s s') := by
  refine T_of (fL_told.eq_1 ..) ?_
  refine T_if1 (by decide +kernel) ?_
  refine T_cL (T_mono (T_and (sf_X11_told_1Y hfu s h.1 p1 b1 h.2.1 t7.2.2.2) (T_mono (sf_X11_told_1Z hfu s h.1 p1 b1 h.2.1 t8.1) (fun v w h9 => (by first | exact h9.2.2.2.1 | exact h9.2.2.2.2.1 | exact h9.2.2.2.2.2.1 : y_Y5 w)))) (fun v s' hq => ?_))
  obtain ⟨hq, hz⟩ := hq
  obtain ⟨c, f, hv, hy, hq⟩ := hq
  have cf : (∀ a b : Int, 309 ≤ a → a ≤ 7657 → s' a b = s a b) := fun a b q _ => f a b (by first | exact not_false | (unfold R_X11_told_1; omega))
  have lc : y_LC s s' := ⟨c, hv, h.2.2.1.fr h.1 cf, h.2.2.2.1.keep cf, cf⟩
  have k5 : y_K5 s s' := ⟨hz, t8.2.1.fr (fun a b p => f a b (by first | exact not_false | (unfold R_X11_told_1; omega))), by rw [f 296 9 (by first | exact not_false | (unfold R_X11_told_1; omega))]; omega⟩
  have sc : y_SC s s' := fun a b q => f a b (by unfold y_SK0 at q; first | exact not_false | (unfold R_X11_told_1; omega))
  have h3 : ∀ j : Int, s' 3 j = s 3 j := fun j => f 3 j (by first | exact not_false | (unfold R_X11_told_1; omega))
  rcases hq with ⟨x, rfl, q1, q2⟩ | rfl
  · refine T_vcL ?_
    refine T_if1 (by decide +kernel) ?_
    refine T_up ?_
    exact T_ret ⟨_, rfl, ⟨lc.out (by omega), sc.out⟩, fun j => (z_up_k (by decide)).trans (h3 j), hy.cls (fun a b q => z_up_k (by omega)), k5.out⟩
  · refine T_v1L ?_
    exact T_ret ⟨_, rfl, ⟨lc, sc⟩, h3, hy, k5⟩
theorem M_told {fu : Nat} (hfu : 8589934592 ≤ fu) {s s1 : z_M} (h : y_LX s) (t6 : y_I6 s) (t7 : y_J7 s) (lc : y_LC s s1) (km : y_KM s1) (ym : y_YM s1) (p1 : Int) (b1 : -2147483648 ≤ p1 ∧ p1 ≤ 2147483647) (sc : y_SC s s1) : z_T (fX12_told fu s1 309 p1) (fun v s' => ∃ y, v = vL y ∧ (y_LX s') ∧ (∀ a b : Int, a ≤ 308 ∨ a = 7658 ∨ a = 313 ∨ a = 314 → s' a b = s1 a b) ∧ (∀ j : Int, s' 312 j = s1 312 j) ∧ y_KM s' ∧ y_YM s') := by
  refine T_mono (T_and (T_and (sf_X12_told_309 hfu s1 lc.1 p1 b1 lc.2.2.1.1 lc.2.2.1.2.1 lc.2.2.1.2.2.1 lc.2.2.1.2.2.2) (T_mono (sf_X12_told_309K hfu s1 lc.1 p1 b1 lc.2.2.1.1 lc.2.2.1.2.1 lc.2.2.1.2.2.1 lc.2.2.1.2.2.2 km) (fun v w h9 => (h9.2.2.2.2.2.2.1 : y_KM w)))) (T_mono (sf_X12_told_309Y hfu s1 lc.1 p1 b1 lc.2.2.1.1 lc.2.2.1.2.1 lc.2.2.1.2.2.1 lc.2.2.1.2.2.2 km ym) (fun v w h9 => (h9.2.2.2.2.2.2.2.1 : y_YM w)))) (fun v s' hq => ?_)
  obtain ⟨hq, yn⟩ := hq
  obtain ⟨hq, kn⟩ := hq
  obtain ⟨c, f, hA, hD, hB, hK, y, rfl, q1, q2⟩ := hq
  have hm : ∀ a b : Int, a ≤ 308 ∨ a = 7658 → s' a b = s1 a b := fun a b q => f a b (by first | exact not_false | (unfold R_X12_told_309; omega))
  have hm3 : ∀ a b : Int, a ≤ 308 ∨ a = 7658 ∨ a = 313 ∨ a = 314 → s' a b = s1 a b := fun a b q => f a b (by first | exact not_false | (unfold R_X12_told_309; omega))
  have hS : ∀ j : Int, s' 312 j = s1 312 j := fun j => f 312 j (by first | exact not_false | (unfold R_X12_told_309; omega))
  have hk : ∀ a b : Int, y_KK a b → s' a b = s1 a b := fun a b q => by
    unfold y_KK at q
    exact f a b (by first | exact not_false | (unfold R_X12_told_309; omega))
  exact ⟨y, rfl, lc.nm h sc c ⟨hA, hD, hB, hK⟩ hm hk, hm3, hS, kn, yn⟩
theorem L_unit {fu : Nat} (hfu : 8589934592 ≤ fu) {s : z_M} (h : y_LX s) (t6 : y_I6 s) (t7 : y_J7 s) {n8 : Int} (t8 : y_J8 n8 s) (hn : n8 ≤ 4000) (p1 : Int) (p2 : Int) (b1 : -2147483648 ≤ p1 ∧ p1 ≤ 2147483647) (b2 : -2147483648 ≤ p2 ∧ p2 ≤ 2147483647) : z_T (fL_unit fu s 1 p1 p2 7658) (fun v s' => ∃ x, v = vI x ∧ (y_LC s s' ∧ y_SC s s') ∧ (∀ j : Int, s' 3 j = s 3 j) ∧ y_Y4 s' ∧ y_K5 s s') := by
  refine T_of (fL_unit.eq_1 ..) ?_
  refine T_if1 (by decide +kernel) ?_
  refine T_cI (T_mono (T_and (sf_X11_unit_1Y hfu s h.1 p1 p2 b1 b2 h.2.1 t7.2.2.2) (T_mono (sf_X11_unit_1Z hfu s h.1 p1 p2 b1 b2 h.2.1 t8.1) (fun v w h9 => (by first | exact h9.2.2.2.1 | exact h9.2.2.2.2.1 | exact h9.2.2.2.2.2.1 : y_Y5 w)))) (fun v s' hq => ?_))
  obtain ⟨hq, hz⟩ := hq
  obtain ⟨c, f, hv, hy, hq⟩ := hq
  have cf : (∀ a b : Int, 309 ≤ a → a ≤ 7657 → s' a b = s a b) := fun a b q _ => f a b (by first | exact not_false | (unfold R_X11_unit_1; omega))
  have lc : y_LC s s' := ⟨c, hv, h.2.2.1.fr h.1 cf, h.2.2.2.1.keep cf, cf⟩
  have k5 : y_K5 s s' := ⟨hz, t8.2.1.fr (fun a b p => f a b (by first | exact not_false | (unfold R_X11_unit_1; omega))), by rw [f 296 9 (by first | exact not_false | (unfold R_X11_unit_1; omega))]; omega⟩
  have sc : y_SC s s' := fun a b q => f a b (by unfold y_SK0 at q; first | exact not_false | (unfold R_X11_unit_1; omega))
  have h3 : ∀ j : Int, s' 3 j = s 3 j := fun j => f 3 j (by first | exact not_false | (unfold R_X11_unit_1; omega))
  rcases hq with ⟨x, rfl, q1, q2⟩ | rfl | rfl
  · refine T_vcI ?_
    refine T_if1 (by decide +kernel) ?_
    refine T_up ?_
    exact T_ret ⟨_, rfl, ⟨lc.out (by omega), sc.out⟩, fun j => (z_up_k (by decide)).trans (h3 j), hy.cls (fun a b q => z_up_k (by omega)), k5.out⟩
  · refine T_v0I ?_
    exact T_ret ⟨_, rfl, ⟨lc, sc⟩, h3, hy, k5⟩
  · refine T_v1I ?_
    exact T_ret ⟨_, rfl, ⟨lc, sc⟩, h3, hy, k5⟩
theorem M_unit {fu : Nat} (hfu : 8589934592 ≤ fu) {s s1 : z_M} (h : y_LX s) (t6 : y_I6 s) (t7 : y_J7 s) (lc : y_LC s s1) (km : y_KM s1) (ym : y_YM s1) (p1 : Int) (p2 : Int) (b1 : -2147483648 ≤ p1 ∧ p1 ≤ 2147483647) (b2 : -2147483648 ≤ p2 ∧ p2 ≤ 2147483647) (sc : y_SC s s1) : z_T (fX12_unit fu s1 309 p1 p2) (fun v s' => ∃ y, v = vI y ∧ (y_LX s') ∧ (∀ a b : Int, a ≤ 308 ∨ a = 7658 ∨ a = 313 ∨ a = 314 → s' a b = s1 a b) ∧ (∀ j : Int, s' 312 j = s1 312 j) ∧ y_KM s' ∧ y_YM s') := by
  refine T_mono (T_and (T_and (sf_X12_unit_309 hfu s1 lc.1 p1 p2 b1 b2 lc.2.2.1.1 lc.2.2.1.2.1 lc.2.2.1.2.2.1 lc.2.2.1.2.2.2) (T_mono (sf_X12_unit_309K hfu s1 lc.1 p1 p2 b1 b2 lc.2.2.1.1 lc.2.2.1.2.1 lc.2.2.1.2.2.1 lc.2.2.1.2.2.2 km) (fun v w h9 => (h9.2.2.2.2.2.2.1 : y_KM w)))) (T_mono (sf_X12_unit_309Y hfu s1 lc.1 p1 p2 b1 b2 lc.2.2.1.1 lc.2.2.1.2.1 lc.2.2.1.2.2.1 lc.2.2.1.2.2.2 km ym) (fun v w h9 => (h9.2.2.2.2.2.2.2.1 : y_YM w)))) (fun v s' hq => ?_)
  obtain ⟨hq, yn⟩ := hq
  obtain ⟨hq, kn⟩ := hq
  obtain ⟨c, f, hA, hD, hB, hK, y, rfl, q1, q2⟩ := hq
  have hm : ∀ a b : Int, a ≤ 308 ∨ a = 7658 → s' a b = s1 a b := fun a b q => f a b (by first | exact not_false | (unfold R_X12_unit_309; omega))
  have hm3 : ∀ a b : Int, a ≤ 308 ∨ a = 7658 ∨ a = 313 ∨ a = 314 → s' a b = s1 a b := fun a b q => f a b (by first | exact not_false | (unfold R_X12_unit_309; omega))
  have hS : ∀ j : Int, s' 312 j = s1 312 j := fun j => f 312 j (by first | exact not_false | (unfold R_X12_unit_309; omega))
  have hk : ∀ a b : Int, y_KK a b → s' a b = s1 a b := fun a b q => by
    unfold y_KK at q
    exact f a b (by first | exact not_false | (unfold R_X12_unit_309; omega))
  exact ⟨y, rfl, lc.nm h sc c ⟨hA, hD, hB, hK⟩ hm hk, hm3, hS, kn, yn⟩
theorem L_sign {fu : Nat} (hfu : 8589934592 ≤ fu) {s : z_M} (h : y_LX s) (t6 : y_I6 s) (t7 : y_J7 s) {n8 : Int} (t8 : y_J8 n8 s) (hn : n8 ≤ 4000) (p1 : Int) (p2 : Int) (b1 : -2147483648 ≤ p1 ∧ p1 ≤ 2147483647) (b2 : -2147483648 ≤ p2 ∧ p2 ≤ 2147483647) : z_T (fL_sign fu s 1 p1 p2 7658) (fun v s' => ∃ x, v = vI x ∧ (y_LC s s' ∧ y_SC s s') ∧ (∀ j : Int, s' 3 j = s 3 j) ∧ y_Y4 s' ∧ y_K5 s s') := by
  refine T_of (fL_sign.eq_1 ..) ?_
  refine T_if1 (by decide +kernel) ?_
  refine T_cI (T_mono (T_and (sf_X11_sign_1Y hfu s h.1 p1 p2 b1 b2 h.2.1 t7.2.2.2) (T_mono (sf_X11_sign_1Z hfu s h.1 p1 p2 b1 b2 h.2.1 t8.1) (fun v w h9 => (by first | exact h9.2.2.2.1 | exact h9.2.2.2.2.1 | exact h9.2.2.2.2.2.1 : y_Y5 w)))) (fun v s' hq => ?_))
  obtain ⟨hq, hz⟩ := hq
  obtain ⟨c, f, hv, hy, hq⟩ := hq
  have cf : (∀ a b : Int, 309 ≤ a → a ≤ 7657 → s' a b = s a b) := fun a b q _ => f a b (by first | exact not_false | (unfold R_X11_sign_1; omega))
  have lc : y_LC s s' := ⟨c, hv, h.2.2.1.fr h.1 cf, h.2.2.2.1.keep cf, cf⟩
  have k5 : y_K5 s s' := ⟨hz, t8.2.1.fr (fun a b p => f a b (by first | exact not_false | (unfold R_X11_sign_1; omega))), by rw [f 296 9 (by first | exact not_false | (unfold R_X11_sign_1; omega))]; omega⟩
  have sc : y_SC s s' := fun a b q => f a b (by unfold y_SK0 at q; first | exact not_false | (unfold R_X11_sign_1; omega))
  have h3 : ∀ j : Int, s' 3 j = s 3 j := fun j => f 3 j (by first | exact not_false | (unfold R_X11_sign_1; omega))
  rcases hq with ⟨x, rfl, q1, q2⟩ | rfl | rfl
  · refine T_vcI ?_
    refine T_if1 (by decide +kernel) ?_
    refine T_up ?_
    exact T_ret ⟨_, rfl, ⟨lc.out (by omega), sc.out⟩, fun j => (z_up_k (by decide)).trans (h3 j), hy.cls (fun a b q => z_up_k (by omega)), k5.out⟩
  · refine T_v0I ?_
    exact T_ret ⟨_, rfl, ⟨lc, sc⟩, h3, hy, k5⟩
  · refine T_v1I ?_
    exact T_ret ⟨_, rfl, ⟨lc, sc⟩, h3, hy, k5⟩
theorem M_sign {fu : Nat} (hfu : 8589934592 ≤ fu) {s s1 : z_M} (h : y_LX s) (t6 : y_I6 s) (t7 : y_J7 s) (lc : y_LC s s1) (km : y_KM s1) (ym : y_YM s1) (p1 : Int) (p2 : Int) (b1 : -2147483648 ≤ p1 ∧ p1 ≤ 2147483647) (b2 : -2147483648 ≤ p2 ∧ p2 ≤ 2147483647) (sc : y_SC s s1) : z_T (fX12_sign fu s1 309 p1 p2) (fun v s' => ∃ y, v = vI y ∧ (y_LX s') ∧ (∀ a b : Int, a ≤ 308 ∨ a = 7658 ∨ a = 313 ∨ a = 314 → s' a b = s1 a b) ∧ (∀ j : Int, s' 312 j = s1 312 j) ∧ y_KM s' ∧ y_YM s') := by
  refine T_mono (T_and (T_and (sf_X12_sign_309 hfu s1 lc.1 p1 p2 b1 b2 lc.2.2.1.1 lc.2.2.1.2.1 lc.2.2.1.2.2.1 lc.2.2.1.2.2.2) (T_mono (sf_X12_sign_309K hfu s1 lc.1 p1 p2 b1 b2 lc.2.2.1.1 lc.2.2.1.2.1 lc.2.2.1.2.2.1 lc.2.2.1.2.2.2 km) (fun v w h9 => (h9.2.2.2.2.2.2.1 : y_KM w)))) (T_mono (sf_X12_sign_309Y hfu s1 lc.1 p1 p2 b1 b2 lc.2.2.1.1 lc.2.2.1.2.1 lc.2.2.1.2.2.1 lc.2.2.1.2.2.2 km ym) (fun v w h9 => (h9.2.2.2.2.2.2.2.1 : y_YM w)))) (fun v s' hq => ?_)
  obtain ⟨hq, yn⟩ := hq
  obtain ⟨hq, kn⟩ := hq
  obtain ⟨c, f, hA, hD, hB, hK, y, rfl, q1, q2⟩ := hq
  have hm : ∀ a b : Int, a ≤ 308 ∨ a = 7658 → s' a b = s1 a b := fun a b q => f a b (by first | exact not_false | (unfold R_X12_sign_309; omega))
  have hm3 : ∀ a b : Int, a ≤ 308 ∨ a = 7658 ∨ a = 313 ∨ a = 314 → s' a b = s1 a b := fun a b q => f a b (by first | exact not_false | (unfold R_X12_sign_309; omega))
  have hS : ∀ j : Int, s' 312 j = s1 312 j := fun j => f 312 j (by first | exact not_false | (unfold R_X12_sign_309; omega))
  have hk : ∀ a b : Int, y_KK a b → s' a b = s1 a b := fun a b q => by
    unfold y_KK at q
    exact f a b (by first | exact not_false | (unfold R_X12_sign_309; omega))
  exact ⟨y, rfl, lc.nm h sc c ⟨hA, hD, hB, hK⟩ hm hk, hm3, hS, kn, yn⟩
theorem L_line {fu : Nat} (hfu : 8589934592 ≤ fu) {s : z_M} (h : y_LX s) (t6 : y_I6 s) (t7 : y_J7 s) {n8 : Int} (t8 : y_J8 n8 s) (hn : n8 ≤ 4000) (p1 : Int) (p2 : Int) (b1 : -2147483648 ≤ p1 ∧ p1 ≤ 2147483647) (b2 : -2147483648 ≤ p2 ∧ p2 ≤ 2147483647) : z_T (fL_line fu s 1 p1 p2 7658) (fun v s' => ∃ x, v = vI x ∧ (y_LC s s' ∧ y_SC s s') ∧ (∀ j : Int, s' 3 j = s 3 j) ∧ y_Y4 s' ∧ y_K5 s s') := by
  refine T_of (fL_line.eq_1 ..) ?_
  refine T_if1 (by decide +kernel) ?_
  refine T_cI (T_mono (T_and (sf_X11_line_1Y hfu s h.1 p1 p2 b1 b2 h.2.1 t7.2.2.2) (T_mono (sf_X11_line_1Z hfu s h.1 p1 p2 b1 b2 h.2.1 t8.1) (fun v w h9 => (by first | exact h9.2.2.2.1 | exact h9.2.2.2.2.1 | exact h9.2.2.2.2.2.1 : y_Y5 w)))) (fun v s' hq => ?_))
  obtain ⟨hq, hz⟩ := hq
  obtain ⟨c, f, hv, hy, hq⟩ := hq
  have cf : (∀ a b : Int, 309 ≤ a → a ≤ 7657 → s' a b = s a b) := fun a b q _ => f a b (by first | exact not_false | (unfold R_X11_line_1; omega))
  have lc : y_LC s s' := ⟨c, hv, h.2.2.1.fr h.1 cf, h.2.2.2.1.keep cf, cf⟩
  have k5 : y_K5 s s' := ⟨hz, t8.2.1.fr (fun a b p => f a b (by first | exact not_false | (unfold R_X11_line_1; omega))), by rw [f 296 9 (by first | exact not_false | (unfold R_X11_line_1; omega))]; omega⟩
  have sc : y_SC s s' := fun a b q => f a b (by unfold y_SK0 at q; first | exact not_false | (unfold R_X11_line_1; omega))
  have h3 : ∀ j : Int, s' 3 j = s 3 j := fun j => f 3 j (by first | exact not_false | (unfold R_X11_line_1; omega))
  rcases hq with ⟨x, rfl, q1, q2⟩ | rfl | rfl
  · refine T_vcI ?_
    refine T_if1 (by decide +kernel) ?_
    refine T_up ?_
    exact T_ret ⟨_, rfl, ⟨lc.out (by omega), sc.out⟩, fun j => (z_up_k (by decide)).trans (h3 j), hy.cls (fun a b q => z_up_k (by omega)), k5.out⟩
  · refine T_v0I ?_
    exact T_ret ⟨_, rfl, ⟨lc, sc⟩, h3, hy, k5⟩
  · refine T_v1I ?_
    exact T_ret ⟨_, rfl, ⟨lc, sc⟩, h3, hy, k5⟩
theorem M_line {fu : Nat} (hfu : 8589934592 ≤ fu) {s s1 : z_M} (h : y_LX s) (t6 : y_I6 s) (t7 : y_J7 s) (lc : y_LC s s1) (km : y_KM s1) (ym : y_YM s1) (p1 : Int) (p2 : Int) (b1 : -2147483648 ≤ p1 ∧ p1 ≤ 2147483647) (b2 : -2147483648 ≤ p2 ∧ p2 ≤ 2147483647) (sc : y_SC s s1) : z_T (fX12_line fu s1 309 p1 p2) (fun v s' => ∃ y, v = vI y ∧ (y_LX s') ∧ (∀ a b : Int, a ≤ 308 ∨ a = 7658 ∨ a = 313 ∨ a = 314 → s' a b = s1 a b) ∧ (∀ j : Int, s' 312 j = s1 312 j) ∧ y_KM s' ∧ y_YM s') := by
  refine T_mono (T_and (T_and (sf_X12_line_309 hfu s1 lc.1 p1 p2 b1 b2 lc.2.2.1.1 lc.2.2.1.2.1 lc.2.2.1.2.2.1 lc.2.2.1.2.2.2) (T_mono (sf_X12_line_309K hfu s1 lc.1 p1 p2 b1 b2 lc.2.2.1.1 lc.2.2.1.2.1 lc.2.2.1.2.2.1 lc.2.2.1.2.2.2 km) (fun v w h9 => (h9.2.2.2.2.2.2.1 : y_KM w)))) (T_mono (sf_X12_line_309Y hfu s1 lc.1 p1 p2 b1 b2 lc.2.2.1.1 lc.2.2.1.2.1 lc.2.2.1.2.2.1 lc.2.2.1.2.2.2 km ym) (fun v w h9 => (h9.2.2.2.2.2.2.2.1 : y_YM w)))) (fun v s' hq => ?_)
  obtain ⟨hq, yn⟩ := hq
  obtain ⟨hq, kn⟩ := hq
  obtain ⟨c, f, hA, hD, hB, hK, y, rfl, q1, q2⟩ := hq
  have hm : ∀ a b : Int, a ≤ 308 ∨ a = 7658 → s' a b = s1 a b := fun a b q => f a b (by first | exact not_false | (unfold R_X12_line_309; omega))
  have hm3 : ∀ a b : Int, a ≤ 308 ∨ a = 7658 ∨ a = 313 ∨ a = 314 → s' a b = s1 a b := fun a b q => f a b (by first | exact not_false | (unfold R_X12_line_309; omega))
  have hS : ∀ j : Int, s' 312 j = s1 312 j := fun j => f 312 j (by first | exact not_false | (unfold R_X12_line_309; omega))
  have hk : ∀ a b : Int, y_KK a b → s' a b = s1 a b := fun a b q => by
    unfold y_KK at q
    exact f a b (by first | exact not_false | (unfold R_X12_line_309; omega))
  exact ⟨y, rfl, lc.nm h sc c ⟨hA, hD, hB, hK⟩ hm hk, hm3, hS, kn, yn⟩
theorem L_block {fu : Nat} (hfu : 8589934592 ≤ fu) {s : z_M} (h : y_LX s) (t6 : y_I6 s) (t7 : y_J7 s) {n8 : Int} (t8 : y_J8 n8 s) (hn : n8 ≤ 4000) (p1 : Int) (p2 : Int) (b1 : -2147483648 ≤ p1 ∧ p1 ≤ 2147483647) (b2 : -2147483648 ≤ p2 ∧ p2 ≤ 2147483647) : z_T (fL_block fu s 1 p1 p2 7658) (fun v s' => ∃ x, v = vI x ∧ (y_LC s s' ∧ y_SC s s') ∧ (∀ j : Int, s' 3 j = s 3 j) ∧ y_Y4 s' ∧ y_K5 s s') := by
  refine T_of (fL_block.eq_1 ..) ?_
  refine T_if1 (by decide +kernel) ?_
  refine T_cI (T_mono (T_and (sf_X11_block_1Y hfu s h.1 p1 p2 b1 b2 h.2.1 t7.2.2.2) (T_mono (sf_X11_block_1Z hfu s h.1 p1 p2 b1 b2 h.2.1 t8.1) (fun v w h9 => (by first | exact h9.2.2.2.1 | exact h9.2.2.2.2.1 | exact h9.2.2.2.2.2.1 : y_Y5 w)))) (fun v s' hq => ?_))
  obtain ⟨hq, hz⟩ := hq
  obtain ⟨c, f, hv, hy, hq⟩ := hq
  have cf : (∀ a b : Int, 309 ≤ a → a ≤ 7657 → s' a b = s a b) := fun a b q _ => f a b (by first | exact not_false | (unfold R_X11_block_1; omega))
  have lc : y_LC s s' := ⟨c, hv, h.2.2.1.fr h.1 cf, h.2.2.2.1.keep cf, cf⟩
  have k5 : y_K5 s s' := ⟨hz, t8.2.1.fr (fun a b p => f a b (by first | exact not_false | (unfold R_X11_block_1; omega))), by rw [f 296 9 (by first | exact not_false | (unfold R_X11_block_1; omega))]; omega⟩
  have sc : y_SC s s' := fun a b q => f a b (by unfold y_SK0 at q; first | exact not_false | (unfold R_X11_block_1; omega))
  have h3 : ∀ j : Int, s' 3 j = s 3 j := fun j => f 3 j (by first | exact not_false | (unfold R_X11_block_1; omega))
  rcases hq with ⟨x, rfl, q1, q2⟩ | rfl | rfl
  · refine T_vcI ?_
    refine T_if1 (by decide +kernel) ?_
    refine T_up ?_
    exact T_ret ⟨_, rfl, ⟨lc.out (by omega), sc.out⟩, fun j => (z_up_k (by decide)).trans (h3 j), hy.cls (fun a b q => z_up_k (by omega)), k5.out⟩
  · refine T_v0I ?_
    exact T_ret ⟨_, rfl, ⟨lc, sc⟩, h3, hy, k5⟩
  · refine T_v1I ?_
    exact T_ret ⟨_, rfl, ⟨lc, sc⟩, h3, hy, k5⟩
theorem M_block {fu : Nat} (hfu : 8589934592 ≤ fu) {s s1 : z_M} (h : y_LX s) (t6 : y_I6 s) (t7 : y_J7 s) (lc : y_LC s s1) (km : y_KM s1) (ym : y_YM s1) (p1 : Int) (p2 : Int) (b1 : -2147483648 ≤ p1 ∧ p1 ≤ 2147483647) (b2 : -2147483648 ≤ p2 ∧ p2 ≤ 2147483647) (sc : y_SC s s1) : z_T (fX12_block fu s1 309 p1 p2) (fun v s' => ∃ y, v = vI y ∧ (y_LX s') ∧ (∀ a b : Int, a ≤ 308 ∨ a = 7658 ∨ a = 313 ∨ a = 314 → s' a b = s1 a b) ∧ (∀ j : Int, s' 312 j = s1 312 j) ∧ y_KM s' ∧ y_YM s') := by
  refine T_mono (T_and (T_and (sf_X12_block_309 hfu s1 lc.1 p1 p2 b1 b2 lc.2.2.1.1 lc.2.2.1.2.1 lc.2.2.1.2.2.1 lc.2.2.1.2.2.2) (T_mono (sf_X12_block_309K hfu s1 lc.1 p1 p2 b1 b2 lc.2.2.1.1 lc.2.2.1.2.1 lc.2.2.1.2.2.1 lc.2.2.1.2.2.2 km) (fun v w h9 => (h9.2.2.2.2.2.2.1 : y_KM w)))) (T_mono (sf_X12_block_309Y hfu s1 lc.1 p1 p2 b1 b2 lc.2.2.1.1 lc.2.2.1.2.1 lc.2.2.1.2.2.1 lc.2.2.1.2.2.2 km ym) (fun v w h9 => (h9.2.2.2.2.2.2.2.1 : y_YM w)))) (fun v s' hq => ?_)
  obtain ⟨hq, yn⟩ := hq
  obtain ⟨hq, kn⟩ := hq
  obtain ⟨c, f, hA, hD, hB, hK, y, rfl, q1, q2⟩ := hq
  have hm : ∀ a b : Int, a ≤ 308 ∨ a = 7658 → s' a b = s1 a b := fun a b q => f a b (by first | exact not_false | (unfold R_X12_block_309; omega))
  have hm3 : ∀ a b : Int, a ≤ 308 ∨ a = 7658 ∨ a = 313 ∨ a = 314 → s' a b = s1 a b := fun a b q => f a b (by first | exact not_false | (unfold R_X12_block_309; omega))
  have hS : ∀ j : Int, s' 312 j = s1 312 j := fun j => f 312 j (by first | exact not_false | (unfold R_X12_block_309; omega))
  have hk : ∀ a b : Int, y_KK a b → s' a b = s1 a b := fun a b q => by
    unfold y_KK at q
    exact f a b (by first | exact not_false | (unfold R_X12_block_309; omega))
  exact ⟨y, rfl, lc.nm h sc c ⟨hA, hD, hB, hK⟩ hm hk, hm3, hS, kn, yn⟩
theorem L_reading {fu : Nat} (hfu : 8589934592 ≤ fu) {s : z_M} (h : y_LX s) (t6 : y_I6 s) (t7 : y_J7 s) {n8 : Int} (t8 : y_J8 n8 s) (hn : n8 ≤ 4000) (p1 : Int) (p2 : Int) (p3 : Int) (p4 : Int) (b1 : -2147483648 ≤ p1 ∧ p1 ≤ 2147483647) (b2 : -2147483648 ≤ p2 ∧ p2 ≤ 2147483647) (b3 : -2147483648 ≤ p3 ∧ p3 ≤ 2147483647) (b4 : -2147483648 ≤ p4 ∧ p4 ≤ 2147483647) : z_T (fL_reading fu s 1 p1 p2 p3 p4 7658) (fun v s' => ∃ x, v = vI x ∧ (y_LC s s' ∧ y_SC s s') ∧ (∀ j : Int, s' 3 j = s 3 j) ∧ y_Y4 s' ∧ y_K5 s s') := by
  refine T_of (fL_reading.eq_1 ..) ?_
  refine T_if1 (by decide +kernel) ?_
  refine T_cI (T_mono (T_and (sf_X11_reading_1Y hfu s h.1 p1 p2 p3 p4 b1 b2 b3 b4 h.2.1 t7.2.2.2) (T_mono (sf_X11_reading_1Z hfu s h.1 p1 p2 p3 p4 b1 b2 b3 b4 h.2.1 t8.1) (fun v w h9 => (by first | exact h9.2.2.2.1 | exact h9.2.2.2.2.1 | exact h9.2.2.2.2.2.1 : y_Y5 w)))) (fun v s' hq => ?_))
  obtain ⟨hq, hz⟩ := hq
  obtain ⟨c, f, hv, hy, hq⟩ := hq
  have cf : (∀ a b : Int, 309 ≤ a → a ≤ 7657 → s' a b = s a b) := fun a b q _ => f a b (by first | exact not_false | (unfold R_X11_reading_1; omega))
  have lc : y_LC s s' := ⟨c, hv, h.2.2.1.fr h.1 cf, h.2.2.2.1.keep cf, cf⟩
  have k5 : y_K5 s s' := ⟨hz, t8.2.1.fr (fun a b p => f a b (by first | exact not_false | (unfold R_X11_reading_1; omega))), by rw [f 296 9 (by first | exact not_false | (unfold R_X11_reading_1; omega))]; omega⟩
  have sc : y_SC s s' := fun a b q => f a b (by unfold y_SK0 at q; first | exact not_false | (unfold R_X11_reading_1; omega))
  have h3 : ∀ j : Int, s' 3 j = s 3 j := fun j => f 3 j (by first | exact not_false | (unfold R_X11_reading_1; omega))
  rcases hq with ⟨x, rfl, q1, q2⟩ | rfl | rfl
  · refine T_vcI ?_
    refine T_if1 (by decide +kernel) ?_
    refine T_up ?_
    exact T_ret ⟨_, rfl, ⟨lc.out (by omega), sc.out⟩, fun j => (z_up_k (by decide)).trans (h3 j), hy.cls (fun a b q => z_up_k (by omega)), k5.out⟩
  · refine T_v0I ?_
    exact T_ret ⟨_, rfl, ⟨lc, sc⟩, h3, hy, k5⟩
  · refine T_v1I ?_
    exact T_ret ⟨_, rfl, ⟨lc, sc⟩, h3, hy, k5⟩
theorem M_reading {fu : Nat} (hfu : 8589934592 ≤ fu) {s s1 : z_M} (h : y_LX s) (t6 : y_I6 s) (t7 : y_J7 s) (lc : y_LC s s1) (km : y_KM s1) (ym : y_YM s1) (p1 : Int) (p2 : Int) (p3 : Int) (p4 : Int) (b1 : -2147483648 ≤ p1 ∧ p1 ≤ 2147483647) (b2 : -2147483648 ≤ p2 ∧ p2 ≤ 2147483647) (b3 : -2147483648 ≤ p3 ∧ p3 ≤ 2147483647) (b4 : -2147483648 ≤ p4 ∧ p4 ≤ 2147483647) (sc : y_SC s s1) : z_T (fX12_reading fu s1 309 p1 p2 p3 p4) (fun v s' => ∃ y, v = vI y ∧ (y_LX s') ∧ (∀ a b : Int, a ≤ 308 ∨ a = 7658 ∨ a = 313 ∨ a = 314 → s' a b = s1 a b) ∧ (∀ j : Int, s' 312 j = s1 312 j) ∧ y_KM s' ∧ y_YM s') := by
  refine T_mono (T_and (T_and (sf_X12_reading_309 hfu s1 lc.1 p1 p2 p3 p4 b1 b2 b3 b4 lc.2.2.1.1 lc.2.2.1.2.1 lc.2.2.1.2.2.1 lc.2.2.1.2.2.2) (T_mono (sf_X12_reading_309K hfu s1 lc.1 p1 p2 p3 p4 b1 b2 b3 b4 lc.2.2.1.1 lc.2.2.1.2.1 lc.2.2.1.2.2.1 lc.2.2.1.2.2.2 km) (fun v w h9 => (h9.2.2.2.2.2.2.1 : y_KM w)))) (T_mono (sf_X12_reading_309Y hfu s1 lc.1 p1 p2 p3 p4 b1 b2 b3 b4 lc.2.2.1.1 lc.2.2.1.2.1 lc.2.2.1.2.2.1 lc.2.2.1.2.2.2 km ym) (fun v w h9 => (h9.2.2.2.2.2.2.2.1 : y_YM w)))) (fun v s' hq => ?_)
  obtain ⟨hq, yn⟩ := hq
  obtain ⟨hq, kn⟩ := hq
  obtain ⟨c, f, hA, hD, hB, hK, y, rfl, q1, q2⟩ := hq
  have hm : ∀ a b : Int, a ≤ 308 ∨ a = 7658 → s' a b = s1 a b := fun a b q => f a b (by first | exact not_false | (unfold R_X12_reading_309; omega))
  have hm3 : ∀ a b : Int, a ≤ 308 ∨ a = 7658 ∨ a = 313 ∨ a = 314 → s' a b = s1 a b := fun a b q => f a b (by first | exact not_false | (unfold R_X12_reading_309; omega))
  have hS : ∀ j : Int, s' 312 j = s1 312 j := fun j => f 312 j (by first | exact not_false | (unfold R_X12_reading_309; omega))
  have hk : ∀ a b : Int, y_KK a b → s' a b = s1 a b := fun a b q => by
    unfold y_KK at q
    exact f a b (by first | exact not_false | (unfold R_X12_reading_309; omega))
  exact ⟨y, rfl, lc.nm h sc c ⟨hA, hD, hB, hK⟩ hm hk, hm3, hS, kn, yn⟩
theorem L_run {fu : Nat} (hfu : 8589934592 ≤ fu) {s : z_M} (h : y_LX s) (t6 : y_I6 s) (t7 : y_J7 s) {n8 : Int} (t8 : y_J8 n8 s) (hn : n8 ≤ 4000) (p1 : Int) (p2 : Int) (b1 : -2147483648 ≤ p1 ∧ p1 ≤ 2147483647) (b2 : -2147483648 ≤ p2 ∧ p2 ≤ 2147483647) : z_T (fL_run fu s 1 p1 p2 7658) (fun v s' => ∃ x, v = vI x ∧ (y_LC s s' ∧ y_SC s s') ∧ (∀ j : Int, s' 3 j = s 3 j) ∧ y_Y4 s' ∧ y_K5 s s') := by
  refine T_of (fL_run.eq_1 ..) ?_
  refine T_if1 (by decide +kernel) ?_
  refine T_cI (T_mono (T_and (sf_X11_run_1Y hfu s h.1 p1 p2 b1 b2 h.2.1 t7.2.2.2) (T_mono (sf_X11_run_1Z hfu s h.1 p1 p2 b1 b2 h.2.1 t8.1) (fun v w h9 => (by first | exact h9.2.2.2.1 | exact h9.2.2.2.2.1 | exact h9.2.2.2.2.2.1 : y_Y5 w)))) (fun v s' hq => ?_))
  obtain ⟨hq, hz⟩ := hq
  obtain ⟨c, f, hv, hy, hq⟩ := hq
  have cf : (∀ a b : Int, 309 ≤ a → a ≤ 7657 → s' a b = s a b) := fun a b q _ => f a b (by first | exact not_false | (unfold R_X11_run_1; omega))
  have lc : y_LC s s' := ⟨c, hv, h.2.2.1.fr h.1 cf, h.2.2.2.1.keep cf, cf⟩
  have k5 : y_K5 s s' := ⟨hz, t8.2.1.fr (fun a b p => f a b (by first | exact not_false | (unfold R_X11_run_1; omega))), by rw [f 296 9 (by first | exact not_false | (unfold R_X11_run_1; omega))]; omega⟩
  have sc : y_SC s s' := fun a b q => f a b (by unfold y_SK0 at q; first | exact not_false | (unfold R_X11_run_1; omega))
  have h3 : ∀ j : Int, s' 3 j = s 3 j := fun j => f 3 j (by first | exact not_false | (unfold R_X11_run_1; omega))
  rcases hq with ⟨x, rfl, q1, q2⟩ | rfl
  · refine T_vcI ?_
    refine T_if1 (by decide +kernel) ?_
    refine T_up ?_
    exact T_ret ⟨_, rfl, ⟨lc.out (by omega), sc.out⟩, fun j => (z_up_k (by decide)).trans (h3 j), hy.cls (fun a b q => z_up_k (by omega)), k5.out⟩
  · refine T_v1I ?_
    exact T_ret ⟨_, rfl, ⟨lc, sc⟩, h3, hy, k5⟩
theorem M_run {fu : Nat} (hfu : 8589934592 ≤ fu) {s s1 : z_M} (h : y_LX s) (t6 : y_I6 s) (t7 : y_J7 s) (lc : y_LC s s1) (km : y_KM s1) (ym : y_YM s1) (p1 : Int) (p2 : Int) (b1 : -2147483648 ≤ p1 ∧ p1 ≤ 2147483647) (b2 : -2147483648 ≤ p2 ∧ p2 ≤ 2147483647) (sc : y_SC s s1) : z_T (fX12_run fu s1 309 p1 p2) (fun v s' => ∃ y, v = vI y ∧ (y_LX s') ∧ (∀ a b : Int, a ≤ 308 ∨ a = 7658 ∨ a = 313 ∨ a = 314 → s' a b = s1 a b) ∧ (∀ j : Int, s' 312 j = s1 312 j) ∧ y_KM s' ∧ y_YM s') := by
  refine T_mono (T_and (sf_X12_run_309 hfu s1 lc.1 p1 p2 b1 b2 lc.2.2.1.1 lc.2.2.1.2.1 lc.2.2.1.2.2.1 lc.2.2.1.2.2.2) (T_mono (sf_X12_run_309Y hfu s1 lc.1 p1 p2 b1 b2 lc.2.2.1.1 lc.2.2.1.2.1 lc.2.2.1.2.2.1 lc.2.2.1.2.2.2 ym) (fun v w h9 => (h9.2.2.2.2.2.2.1 : y_YM w)))) (fun v s' hq => ?_)
  obtain ⟨hq, yn⟩ := hq
  obtain ⟨c, f, hA, hD, hB, hK, y, rfl, q1, q2⟩ := hq
  have hm : ∀ a b : Int, a ≤ 308 ∨ a = 7658 → s' a b = s1 a b := fun a b q => f a b (by first | exact not_false | (unfold R_X12_run_309; omega))
  have hm3 : ∀ a b : Int, a ≤ 308 ∨ a = 7658 ∨ a = 313 ∨ a = 314 → s' a b = s1 a b := fun a b q => f a b (by first | exact not_false | (unfold R_X12_run_309; omega))
  have hS : ∀ j : Int, s' 312 j = s1 312 j := fun j => f 312 j (by first | exact not_false | (unfold R_X12_run_309; omega))
  have kn : y_KM s' := km.fr (f 309 20 (by first | exact not_false | (unfold R_X12_run_309; omega))) (f 309 36 (by first | exact not_false | (unfold R_X12_run_309; omega))) (f 309 38 (by first | exact not_false | (unfold R_X12_run_309; omega))) (f 309 39 (by first | exact not_false | (unfold R_X12_run_309; omega))) (fun b => f 312 b (by first | exact not_false | (unfold R_X12_run_309; omega))) (fun b => f 331 b (by first | exact not_false | (unfold R_X12_run_309; omega))) (fun b => f 346 b (by first | exact not_false | (unfold R_X12_run_309; omega))) (fun b => f 361 b (by first | exact not_false | (unfold R_X12_run_309; omega))) (fun b => f 391 b (by first | exact not_false | (unfold R_X12_run_309; omega))) (fun a b q => f a b (by first | exact not_false | (unfold R_X12_run_309; omega))) (fun a b q => f a b (by first | exact not_false | (unfold R_X12_run_309; omega))) (fun a b q => f a b (by first | exact not_false | (unfold R_X12_run_309; omega)))
  have hk : ∀ a b : Int, y_KK a b → s' a b = s1 a b := fun a b q => by
    unfold y_KK at q
    exact f a b (by first | exact not_false | (unfold R_X12_run_309; omega))
  exact ⟨y, rfl, lc.nm h sc c ⟨hA, hD, hB, hK⟩ hm hk, hm3, hS, kn, yn⟩
theorem L_at {fu : Nat} (hfu : 8589934592 ≤ fu) {s : z_M} (h : y_LX s) (t6 : y_I6 s) (t7 : y_J7 s) {n8 : Int} (t8 : y_J8 n8 s) (hn : n8 ≤ 4000) (p1 : Int) (p2 : Int) (b1 : -2147483648 ≤ p1 ∧ p1 ≤ 2147483647) (b2 : -2147483648 ≤ p2 ∧ p2 ≤ 2147483647) : z_T (fL_at fu s 1 p1 p2 7658) (fun v s' => ∃ x, v = vI x ∧ (y_LC s s' ∧ y_SC s s') ∧ (∀ j : Int, s' 3 j = s 3 j) ∧ y_Y4 s' ∧ y_K5 s s') := by
  refine T_of (fL_at.eq_1 ..) ?_
  refine T_if1 (by decide +kernel) ?_
  refine T_cI (T_mono (T_and (sf_X11_at_1Y hfu s h.1 p1 p2 b1 b2 h.2.1 t7.2.2.2) (T_mono (sf_X11_at_1Z hfu s h.1 p1 p2 b1 b2 h.2.1 t8.1) (fun v w h9 => (by first | exact h9.2.2.2.1 | exact h9.2.2.2.2.1 | exact h9.2.2.2.2.2.1 : y_Y5 w)))) (fun v s' hq => ?_))
  obtain ⟨hq, hz⟩ := hq
  obtain ⟨c, f, hv, hy, hq⟩ := hq
  have cf : (∀ a b : Int, 309 ≤ a → a ≤ 7657 → s' a b = s a b) := fun a b q _ => f a b (by first | exact not_false | (unfold R_X11_at_1; omega))
  have lc : y_LC s s' := ⟨c, hv, h.2.2.1.fr h.1 cf, h.2.2.2.1.keep cf, cf⟩
  have k5 : y_K5 s s' := ⟨hz, t8.2.1.fr (fun a b p => f a b (by first | exact not_false | (unfold R_X11_at_1; omega))), by rw [f 296 9 (by first | exact not_false | (unfold R_X11_at_1; omega))]; omega⟩
  have sc : y_SC s s' := fun a b q => f a b (by unfold y_SK0 at q; first | exact not_false | (unfold R_X11_at_1; omega))
  have h3 : ∀ j : Int, s' 3 j = s 3 j := fun j => f 3 j (by first | exact not_false | (unfold R_X11_at_1; omega))
  rcases hq with ⟨x, rfl, q1, q2⟩ | rfl
  · refine T_vcI ?_
    refine T_if1 (by decide +kernel) ?_
    refine T_up ?_
    exact T_ret ⟨_, rfl, ⟨lc.out (by omega), sc.out⟩, fun j => (z_up_k (by decide)).trans (h3 j), hy.cls (fun a b q => z_up_k (by omega)), k5.out⟩
  · refine T_v0I ?_
    exact T_ret ⟨_, rfl, ⟨lc, sc⟩, h3, hy, k5⟩
theorem M_at {fu : Nat} (hfu : 8589934592 ≤ fu) {s s1 : z_M} (h : y_LX s) (t6 : y_I6 s) (t7 : y_J7 s) (lc : y_LC s s1) (km : y_KM s1) (ym : y_YM s1) (p1 : Int) (p2 : Int) (b1 : -2147483648 ≤ p1 ∧ p1 ≤ 2147483647) (b2 : -2147483648 ≤ p2 ∧ p2 ≤ 2147483647) (sc : y_SC s s1) : z_T (fX12_at fu s1 309 p1 p2) (fun v s' => ∃ y, v = vI y ∧ (y_LX s') ∧ (∀ a b : Int, a ≤ 308 ∨ a = 7658 ∨ a = 313 ∨ a = 314 → s' a b = s1 a b) ∧ (∀ j : Int, s' 312 j = s1 312 j) ∧ y_KM s' ∧ y_YM s') := by
  refine T_mono (T_and (T_and (sf_X12_at_309 hfu s1 lc.1 p1 p2 b1 b2 lc.2.2.1.1 lc.2.2.1.2.1 lc.2.2.1.2.2.1 lc.2.2.1.2.2.2) (T_mono (sf_X12_at_309K hfu s1 lc.1 p1 p2 b1 b2 lc.2.2.1.1 lc.2.2.1.2.1 lc.2.2.1.2.2.1 lc.2.2.1.2.2.2 km) (fun v w h9 => (h9.2.2.2.2.2.2.1 : y_KM w)))) (T_mono (sf_X12_at_309Y hfu s1 lc.1 p1 p2 b1 b2 lc.2.2.1.1 lc.2.2.1.2.1 lc.2.2.1.2.2.1 lc.2.2.1.2.2.2 km ym) (fun v w h9 => (h9.2.2.2.2.2.2.2.1 : y_YM w)))) (fun v s' hq => ?_)
  obtain ⟨hq, yn⟩ := hq
  obtain ⟨hq, kn⟩ := hq
  obtain ⟨c, f, hA, hD, hB, hK, y, rfl, q1, q2⟩ := hq
  have hm : ∀ a b : Int, a ≤ 308 ∨ a = 7658 → s' a b = s1 a b := fun a b q => f a b (by first | exact not_false | (unfold R_X12_at_309; omega))
  have hm3 : ∀ a b : Int, a ≤ 308 ∨ a = 7658 ∨ a = 313 ∨ a = 314 → s' a b = s1 a b := fun a b q => f a b (by first | exact not_false | (unfold R_X12_at_309; omega))
  have hS : ∀ j : Int, s' 312 j = s1 312 j := fun j => f 312 j (by first | exact not_false | (unfold R_X12_at_309; omega))
  have hk : ∀ a b : Int, y_KK a b → s' a b = s1 a b := fun a b q => by
    unfold y_KK at q
    exact f a b (by first | exact not_false | (unfold R_X12_at_309; omega))
  exact ⟨y, rfl, lc.nm h sc c ⟨hA, hD, hB, hK⟩ hm hk, hm3, hS, kn, yn⟩
theorem L_ends {fu : Nat} (hfu : 8589934592 ≤ fu) {s : z_M} (h : y_LX s) (t6 : y_I6 s) (t7 : y_J7 s) {n8 : Int} (t8 : y_J8 n8 s) (hn : n8 ≤ 4000) (p1 : Int) (b1 : -2147483648 ≤ p1 ∧ p1 ≤ 2147483647) : z_T (fL_ends fu s 1 p1 7658) (fun v s' => ∃ x, v = vI x ∧ (y_LC s s' ∧ y_SC s s') ∧ (∀ j : Int, s' 3 j = s 3 j) ∧ y_Y4 s' ∧ y_K5 s s') := by
  refine T_of (fL_ends.eq_1 ..) ?_
  refine T_if1 (by decide +kernel) ?_
  refine T_cI (T_mono (T_and (sf_X11_ends_1Y hfu s h.1 p1 b1 h.2.1 t7.2.2.2) (T_mono (sf_X11_ends_1Z hfu s h.1 p1 b1 h.2.1 t8.1) (fun v w h9 => (by first | exact h9.2.2.2.1 | exact h9.2.2.2.2.1 | exact h9.2.2.2.2.2.1 : y_Y5 w)))) (fun v s' hq => ?_))
  obtain ⟨hq, hz⟩ := hq
  obtain ⟨c, f, hv, hy, hq⟩ := hq
  have cf : (∀ a b : Int, 309 ≤ a → a ≤ 7657 → s' a b = s a b) := fun a b q _ => f a b (by first | exact not_false | (unfold R_X11_ends_1; omega))
  have lc : y_LC s s' := ⟨c, hv, h.2.2.1.fr h.1 cf, h.2.2.2.1.keep cf, cf⟩
  have k5 : y_K5 s s' := ⟨hz, t8.2.1.fr (fun a b p => f a b (by first | exact not_false | (unfold R_X11_ends_1; omega))), by rw [f 296 9 (by first | exact not_false | (unfold R_X11_ends_1; omega))]; omega⟩
  have sc : y_SC s s' := fun a b q => f a b (by unfold y_SK0 at q; first | exact not_false | (unfold R_X11_ends_1; omega))
  have h3 : ∀ j : Int, s' 3 j = s 3 j := fun j => f 3 j (by first | exact not_false | (unfold R_X11_ends_1; omega))
  rcases hq with ⟨x, rfl, q1, q2⟩ | rfl
  · refine T_vcI ?_
    refine T_ite (fun q9 => ?_) (fun q9 => ?_)
    · refine T_of (fL_ends_J15.eq_1 ..) ?_
      refine T_if1 (by decide +kernel) ?_
      refine T_up ?_
      exact T_ret ⟨_, rfl, ⟨lc.out (by omega), sc.out⟩, fun j => (z_up_k (by decide)).trans (h3 j), hy.cls (fun a b q => z_up_k (by omega)), k5.out⟩
    · refine T_of (fL_ends_J15.eq_1 ..) ?_
      refine T_if1 (by decide +kernel) ?_
      refine T_up ?_
      exact T_ret ⟨_, rfl, ⟨lc.out (by omega), sc.out⟩, fun j => (z_up_k (by decide)).trans (h3 j), hy.cls (fun a b q => z_up_k (by omega)), k5.out⟩
  · refine T_v0I ?_
    exact T_ret ⟨_, rfl, ⟨lc, sc⟩, h3, hy, k5⟩
theorem M_ends {fu : Nat} (hfu : 8589934592 ≤ fu) {s s1 : z_M} (h : y_LX s) (t6 : y_I6 s) (t7 : y_J7 s) (lc : y_LC s s1) (km : y_KM s1) (ym : y_YM s1) (p1 : Int) (b1 : -2147483648 ≤ p1 ∧ p1 ≤ 2147483647) (sc : y_SC s s1) : z_T (fX12_ends fu s1 309 p1) (fun v s' => ∃ y, v = vI y ∧ (y_LX s') ∧ (∀ a b : Int, a ≤ 308 ∨ a = 7658 ∨ a = 313 ∨ a = 314 → s' a b = s1 a b) ∧ (∀ j : Int, s' 312 j = s1 312 j) ∧ y_KM s' ∧ y_YM s') := by
  refine T_mono (T_and (T_and (sf_X12_ends_309 hfu s1 lc.1 p1 b1 lc.2.2.1.1 lc.2.2.1.2.1 lc.2.2.1.2.2.1 lc.2.2.1.2.2.2) (T_mono (sf_X12_ends_309K hfu s1 lc.1 p1 b1 lc.2.2.1.1 lc.2.2.1.2.1 lc.2.2.1.2.2.1 lc.2.2.1.2.2.2 km) (fun v w h9 => (h9.2.2.2.2.2.2.1 : y_KM w)))) (T_mono (sf_X12_ends_309Y hfu s1 lc.1 p1 b1 lc.2.2.1.1 lc.2.2.1.2.1 lc.2.2.1.2.2.1 lc.2.2.1.2.2.2 km ym) (fun v w h9 => (h9.2.2.2.2.2.2.2.1 : y_YM w)))) (fun v s' hq => ?_)
  obtain ⟨hq, yn⟩ := hq
  obtain ⟨hq, kn⟩ := hq
  obtain ⟨c, f, hA, hD, hB, hK, y, rfl, q1, q2⟩ := hq
  have hm : ∀ a b : Int, a ≤ 308 ∨ a = 7658 → s' a b = s1 a b := fun a b q => f a b (by first | exact not_false | (unfold R_X12_ends_309; omega))
  have hm3 : ∀ a b : Int, a ≤ 308 ∨ a = 7658 ∨ a = 313 ∨ a = 314 → s' a b = s1 a b := fun a b q => f a b (by first | exact not_false | (unfold R_X12_ends_309; omega))
  have hS : ∀ j : Int, s' 312 j = s1 312 j := fun j => f 312 j (by first | exact not_false | (unfold R_X12_ends_309; omega))
  have hk : ∀ a b : Int, y_KK a b → s' a b = s1 a b := fun a b q => by
    unfold y_KK at q
    exact f a b (by first | exact not_false | (unfold R_X12_ends_309; omega))
  exact ⟨y, rfl, lc.nm h sc c ⟨hA, hD, hB, hK⟩ hm hk, hm3, hS, kn, yn⟩
theorem L_longOf {fu : Nat} (hfu : 8589934592 ≤ fu) {s : z_M} (h : y_LX s) (t6 : y_I6 s) (t7 : y_J7 s) {n8 : Int} (t8 : y_J8 n8 s) (hn : n8 ≤ 4000) (p1 : Int) (p2 : Int) (b1 : -2147483648 ≤ p1 ∧ p1 ≤ 2147483647) (b2 : -2147483648 ≤ p2 ∧ p2 ≤ 2147483647) : z_T (fL_longOf fu s 1 p1 p2 7658) (fun v s' => ∃ x, v = vI x ∧ (y_LC s s' ∧ y_SC s s') ∧ (∀ j : Int, s' 3 j = s 3 j) ∧ y_Y4 s' ∧ y_K5 s s') := by
  refine T_of (fL_longOf.eq_1 ..) ?_
  refine T_if1 (by decide +kernel) ?_
  refine T_cI (T_mono (T_and (sf_X11_longOf_1Y hfu s h.1 p1 p2 b1 b2 h.2.1 t7.2.2.2) (T_mono (sf_X11_longOf_1Z hfu s h.1 p1 p2 b1 b2 h.2.1 t8.1) (fun v w h9 => (by first | exact h9.2.2.2.1 | exact h9.2.2.2.2.1 | exact h9.2.2.2.2.2.1 : y_Y5 w)))) (fun v s' hq => ?_))
  obtain ⟨hq, hz⟩ := hq
  obtain ⟨c, f, hv, hy, hq⟩ := hq
  have cf : (∀ a b : Int, 309 ≤ a → a ≤ 7657 → s' a b = s a b) := fun a b q _ => f a b (by first | exact not_false | (unfold R_X11_longOf_1; omega))
  have lc : y_LC s s' := ⟨c, hv, h.2.2.1.fr h.1 cf, h.2.2.2.1.keep cf, cf⟩
  have k5 : y_K5 s s' := ⟨hz, t8.2.1.fr (fun a b p => f a b (by first | exact not_false | (unfold R_X11_longOf_1; omega))), by rw [f 296 9 (by first | exact not_false | (unfold R_X11_longOf_1; omega))]; omega⟩
  have sc : y_SC s s' := fun a b q => f a b (by unfold y_SK0 at q; first | exact not_false | (unfold R_X11_longOf_1; omega))
  have h3 : ∀ j : Int, s' 3 j = s 3 j := fun j => f 3 j (by first | exact not_false | (unfold R_X11_longOf_1; omega))
  rcases hq with ⟨x, rfl, q1, q2⟩ | rfl | rfl
  · refine T_vcI ?_
    refine T_if1 (by decide +kernel) ?_
    refine T_up ?_
    exact T_ret ⟨_, rfl, ⟨lc.out (by omega), sc.out⟩, fun j => (z_up_k (by decide)).trans (h3 j), hy.cls (fun a b q => z_up_k (by omega)), k5.out⟩
  · refine T_v0I ?_
    exact T_ret ⟨_, rfl, ⟨lc, sc⟩, h3, hy, k5⟩
  · refine T_v1I ?_
    exact T_ret ⟨_, rfl, ⟨lc, sc⟩, h3, hy, k5⟩
theorem M_longOf {fu : Nat} (hfu : 8589934592 ≤ fu) {s s1 : z_M} (h : y_LX s) (t6 : y_I6 s) (t7 : y_J7 s) (lc : y_LC s s1) (km : y_KM s1) (ym : y_YM s1) (p1 : Int) (p2 : Int) (b1 : -2147483648 ≤ p1 ∧ p1 ≤ 2147483647) (b2 : -2147483648 ≤ p2 ∧ p2 ≤ 2147483647) (sc : y_SC s s1) : z_T (fX12_longOf fu s1 309 p1 p2) (fun v s' => ∃ y, v = vI y ∧ (y_LX s') ∧ (∀ a b : Int, a ≤ 308 ∨ a = 7658 ∨ a = 313 ∨ a = 314 → s' a b = s1 a b) ∧ (∀ j : Int, s' 312 j = s1 312 j) ∧ y_KM s' ∧ y_YM s') := by
  refine T_mono (T_and (T_and (sf_X12_longOf_309 hfu s1 lc.1 p1 p2 b1 b2 lc.2.2.1.1 lc.2.2.1.2.1 lc.2.2.1.2.2.1 lc.2.2.1.2.2.2) (T_mono (sf_X12_longOf_309K hfu s1 lc.1 p1 p2 b1 b2 lc.2.2.1.1 lc.2.2.1.2.1 lc.2.2.1.2.2.1 lc.2.2.1.2.2.2 km) (fun v w h9 => (h9.2.2.2.2.2.2.1 : y_KM w)))) (T_mono (sf_X12_longOf_309Y hfu s1 lc.1 p1 p2 b1 b2 lc.2.2.1.1 lc.2.2.1.2.1 lc.2.2.1.2.2.1 lc.2.2.1.2.2.2 km ym) (fun v w h9 => (h9.2.2.2.2.2.2.2.1 : y_YM w)))) (fun v s' hq => ?_)
  obtain ⟨hq, yn⟩ := hq
  obtain ⟨hq, kn⟩ := hq
  obtain ⟨c, f, hA, hD, hB, hK, y, rfl, q1, q2⟩ := hq
  have hm : ∀ a b : Int, a ≤ 308 ∨ a = 7658 → s' a b = s1 a b := fun a b q => f a b (by first | exact not_false | (unfold R_X12_longOf_309; omega))
  have hm3 : ∀ a b : Int, a ≤ 308 ∨ a = 7658 ∨ a = 313 ∨ a = 314 → s' a b = s1 a b := fun a b q => f a b (by first | exact not_false | (unfold R_X12_longOf_309; omega))
  have hS : ∀ j : Int, s' 312 j = s1 312 j := fun j => f 312 j (by first | exact not_false | (unfold R_X12_longOf_309; omega))
  have hk : ∀ a b : Int, y_KK a b → s' a b = s1 a b := fun a b q => by
    unfold y_KK at q
    exact f a b (by first | exact not_false | (unfold R_X12_longOf_309; omega))
  exact ⟨y, rfl, lc.nm h sc c ⟨hA, hD, hB, hK⟩ hm hk, hm3, hS, kn, yn⟩
theorem L_lines {fu : Nat} (hfu : 8589934592 ≤ fu) {s : z_M} (h : y_LX s) (t6 : y_I6 s) (t7 : y_J7 s) {n8 : Int} (t8 : y_J8 n8 s) (hn : n8 ≤ 4000) (p1 : Int) (p2 : Int) (b1 : -2147483648 ≤ p1 ∧ p1 ≤ 2147483647) (b2 : -2147483648 ≤ p2 ∧ p2 ≤ 2147483647) : z_T (fL_lines fu s 1 p1 p2 7658) (fun v s' => ∃ x, v = vI x ∧ (y_LC s s' ∧ y_SC s s') ∧ (∀ j : Int, s' 3 j = s 3 j) ∧ y_Y4 s' ∧ y_K5 s s') := by
  refine T_of (fL_lines.eq_1 ..) ?_
  refine T_if1 (by decide +kernel) ?_
  refine T_cI (T_mono (T_and (sf_X11_lines_1Y hfu s h.1 p1 p2 b1 b2 h.2.1 t7.2.2.2) (T_mono (sf_X11_lines_1Z hfu s h.1 p1 p2 b1 b2 h.2.1 t8.1) (fun v w h9 => (by first | exact h9.2.2.2.1 | exact h9.2.2.2.2.1 | exact h9.2.2.2.2.2.1 : y_Y5 w)))) (fun v s' hq => ?_))
  obtain ⟨hq, hz⟩ := hq
  obtain ⟨c, f, hv, hy, hq⟩ := hq
  have cf : (∀ a b : Int, 309 ≤ a → a ≤ 7657 → s' a b = s a b) := fun a b q _ => f a b (by first | exact not_false | (unfold R_X11_lines_1; omega))
  have lc : y_LC s s' := ⟨c, hv, h.2.2.1.fr h.1 cf, h.2.2.2.1.keep cf, cf⟩
  have k5 : y_K5 s s' := ⟨hz, t8.2.1.fr (fun a b p => f a b (by first | exact not_false | (unfold R_X11_lines_1; omega))), by rw [f 296 9 (by first | exact not_false | (unfold R_X11_lines_1; omega))]; omega⟩
  have sc : y_SC s s' := fun a b q => f a b (by unfold y_SK0 at q; first | exact not_false | (unfold R_X11_lines_1; omega))
  have h3 : ∀ j : Int, s' 3 j = s 3 j := fun j => f 3 j (by first | exact not_false | (unfold R_X11_lines_1; omega))
  rcases hq with ⟨x, rfl, q1, q2⟩ | rfl
  · refine T_vcI ?_
    refine T_if1 (by decide +kernel) ?_
    refine T_up ?_
    exact T_ret ⟨_, rfl, ⟨lc.out (by omega), sc.out⟩, fun j => (z_up_k (by decide)).trans (h3 j), hy.cls (fun a b q => z_up_k (by omega)), k5.out⟩
  · refine T_v1I ?_
    exact T_ret ⟨_, rfl, ⟨lc, sc⟩, h3, hy, k5⟩
theorem M_lines {fu : Nat} (hfu : 8589934592 ≤ fu) {s s1 : z_M} (h : y_LX s) (t6 : y_I6 s) (t7 : y_J7 s) (lc : y_LC s s1) (km : y_KM s1) (ym : y_YM s1) (p1 : Int) (p2 : Int) (b1 : -2147483648 ≤ p1 ∧ p1 ≤ 2147483647) (b2 : -2147483648 ≤ p2 ∧ p2 ≤ 2147483647) (sc : y_SC s s1) : z_T (fX12_lines fu s1 309 p1 p2) (fun v s' => ∃ y, v = vI y ∧ (y_LX s') ∧ (∀ a b : Int, a ≤ 308 ∨ a = 7658 ∨ a = 313 ∨ a = 314 → s' a b = s1 a b) ∧ (∀ j : Int, s' 312 j = s1 312 j) ∧ y_KM s' ∧ y_YM s') := by
  refine T_mono (T_and (T_and (sf_X12_lines_309 hfu s1 lc.1 p1 p2 b1 b2 lc.2.2.1.1 lc.2.2.1.2.1 lc.2.2.1.2.2.1 lc.2.2.1.2.2.2) (T_mono (sf_X12_lines_309K hfu s1 lc.1 p1 p2 b1 b2 lc.2.2.1.1 lc.2.2.1.2.1 lc.2.2.1.2.2.1 lc.2.2.1.2.2.2 km) (fun v w h9 => (h9.2.2.2.2.2.2.1 : y_KM w)))) (T_mono (sf_X12_lines_309Y hfu s1 lc.1 p1 p2 b1 b2 lc.2.2.1.1 lc.2.2.1.2.1 lc.2.2.1.2.2.1 lc.2.2.1.2.2.2 km ym) (fun v w h9 => (h9.2.2.2.2.2.2.2.1 : y_YM w)))) (fun v s' hq => ?_)
  obtain ⟨hq, yn⟩ := hq
  obtain ⟨hq, kn⟩ := hq
  obtain ⟨c, f, hA, hD, hB, hK, y, rfl, q1, q2⟩ := hq
  have hm : ∀ a b : Int, a ≤ 308 ∨ a = 7658 → s' a b = s1 a b := fun a b q => f a b (by first | exact not_false | (unfold R_X12_lines_309; omega))
  have hm3 : ∀ a b : Int, a ≤ 308 ∨ a = 7658 ∨ a = 313 ∨ a = 314 → s' a b = s1 a b := fun a b q => f a b (by first | exact not_false | (unfold R_X12_lines_309; omega))
  have hS : ∀ j : Int, s' 312 j = s1 312 j := fun j => f 312 j (by first | exact not_false | (unfold R_X12_lines_309; omega))
  have hk : ∀ a b : Int, y_KK a b → s' a b = s1 a b := fun a b q => by
    unfold y_KK at q
    exact f a b (by first | exact not_false | (unfold R_X12_lines_309; omega))
  exact ⟨y, rfl, lc.nm h sc c ⟨hA, hD, hB, hK⟩ hm hk, hm3, hS, kn, yn⟩
theorem L_least {fu : Nat} (hfu : 8589934592 ≤ fu) {s : z_M} (h : y_LX s) (t6 : y_I6 s) (t7 : y_J7 s) {n8 : Int} (t8 : y_J8 n8 s) (hn : n8 ≤ 4000) (p1 : Int) (b1 : -2147483648 ≤ p1 ∧ p1 ≤ 2147483647) : z_T (fL_least fu s 1 p1 7658) (fun v s' => ∃ x, v = vI x ∧ (y_LC s s' ∧ y_SC s s') ∧ (∀ j : Int, s' 3 j = s 3 j) ∧ y_Y4 s' ∧ y_K5 s s') := by
  refine T_of (fL_least.eq_1 ..) ?_
  refine T_if1 (by decide +kernel) ?_
  refine T_cI (T_mono (T_and (sf_X11_least_1Y hfu s h.1 p1 b1 h.2.1 t7.2.2.2) (T_mono (sf_X11_least_1Z hfu s h.1 p1 b1 h.2.1 t8.1) (fun v w h9 => (by first | exact h9.2.2.2.1 | exact h9.2.2.2.2.1 | exact h9.2.2.2.2.2.1 : y_Y5 w)))) (fun v s' hq => ?_))
  obtain ⟨hq, hz⟩ := hq
  obtain ⟨c, f, hv, hy, hq⟩ := hq
  have cf : (∀ a b : Int, 309 ≤ a → a ≤ 7657 → s' a b = s a b) := fun a b q _ => f a b (by first | exact not_false | (unfold R_X11_least_1; omega))
  have lc : y_LC s s' := ⟨c, hv, h.2.2.1.fr h.1 cf, h.2.2.2.1.keep cf, cf⟩
  have k5 : y_K5 s s' := ⟨hz, t8.2.1.fr (fun a b p => f a b (by first | exact not_false | (unfold R_X11_least_1; omega))), by rw [f 296 9 (by first | exact not_false | (unfold R_X11_least_1; omega))]; omega⟩
  have sc : y_SC s s' := fun a b q => f a b (by unfold y_SK0 at q; first | exact not_false | (unfold R_X11_least_1; omega))
  have h3 : ∀ j : Int, s' 3 j = s 3 j := fun j => f 3 j (by first | exact not_false | (unfold R_X11_least_1; omega))
  rcases hq with ⟨x, rfl, q1, q2⟩ | rfl
  · refine T_vcI ?_
    refine T_if1 (by decide +kernel) ?_
    refine T_up ?_
    exact T_ret ⟨_, rfl, ⟨lc.out (by omega), sc.out⟩, fun j => (z_up_k (by decide)).trans (h3 j), hy.cls (fun a b q => z_up_k (by omega)), k5.out⟩
  · refine T_v1I ?_
    exact T_ret ⟨_, rfl, ⟨lc, sc⟩, h3, hy, k5⟩
theorem M_least {fu : Nat} (hfu : 8589934592 ≤ fu) {s s1 : z_M} (h : y_LX s) (t6 : y_I6 s) (t7 : y_J7 s) (lc : y_LC s s1) (km : y_KM s1) (ym : y_YM s1) (p1 : Int) (b1 : -2147483648 ≤ p1 ∧ p1 ≤ 2147483647) (sc : y_SC s s1) : z_T (fX12_least fu s1 309 p1) (fun v s' => ∃ y, v = vI y ∧ (y_LX s') ∧ (∀ a b : Int, a ≤ 308 ∨ a = 7658 ∨ a = 313 ∨ a = 314 → s' a b = s1 a b) ∧ (∀ j : Int, s' 312 j = s1 312 j) ∧ y_KM s' ∧ y_YM s') := by
  refine T_mono (T_and (T_and (sf_X12_least_309 hfu s1 lc.1 p1 b1 lc.2.2.1.1 lc.2.2.1.2.1 lc.2.2.1.2.2.1 lc.2.2.1.2.2.2) (T_mono (sf_X12_least_309K hfu s1 lc.1 p1 b1 lc.2.2.1.1 lc.2.2.1.2.1 lc.2.2.1.2.2.1 lc.2.2.1.2.2.2 km) (fun v w h9 => (h9.2.2.2.2.2.2.1 : y_KM w)))) (T_mono (sf_X12_least_309Y hfu s1 lc.1 p1 b1 lc.2.2.1.1 lc.2.2.1.2.1 lc.2.2.1.2.2.1 lc.2.2.1.2.2.2 km ym) (fun v w h9 => (h9.2.2.2.2.2.2.2.1 : y_YM w)))) (fun v s' hq => ?_)
  obtain ⟨hq, yn⟩ := hq
  obtain ⟨hq, kn⟩ := hq
  obtain ⟨c, f, hA, hD, hB, hK, y, rfl, q1, q2⟩ := hq
  have hm : ∀ a b : Int, a ≤ 308 ∨ a = 7658 → s' a b = s1 a b := fun a b q => f a b (by first | exact not_false | (unfold R_X12_least_309; omega))
  have hm3 : ∀ a b : Int, a ≤ 308 ∨ a = 7658 ∨ a = 313 ∨ a = 314 → s' a b = s1 a b := fun a b q => f a b (by first | exact not_false | (unfold R_X12_least_309; omega))
  have hS : ∀ j : Int, s' 312 j = s1 312 j := fun j => f 312 j (by first | exact not_false | (unfold R_X12_least_309; omega))
  have hk : ∀ a b : Int, y_KK a b → s' a b = s1 a b := fun a b q => by
    unfold y_KK at q
    exact f a b (by first | exact not_false | (unfold R_X12_least_309; omega))
  exact ⟨y, rfl, lc.nm h sc c ⟨hA, hD, hB, hK⟩ hm hk, hm3, hS, kn, yn⟩
theorem L_better {fu : Nat} (hfu : 8589934592 ≤ fu) {s : z_M} (h : y_LX s) (t6 : y_I6 s) (t7 : y_J7 s) {n8 : Int} (t8 : y_J8 n8 s) (hn : n8 ≤ 4000) : z_T (fX11_better fu s 1) (fun v s' => ∃ x, v = vL x ∧ (y_LC s s' ∧ y_SC s s') ∧ (∀ j : Int, s' 3 j = s 3 j) ∧ y_Y4 s' ∧ y_K5 s s') := by
  refine T_mono (T_and (sf_X11_better_1Y hfu s h.1 h.2.1 t7.2.2.2) (T_mono (sf_X11_better_1Z hfu s h.1 h.2.1 t8.1) (fun v w h9 => (by first | exact h9.2.2.2.1 | exact h9.2.2.2.2.1 | exact h9.2.2.2.2.2.1 : y_Y5 w)))) (fun v s' hq => ?_)
  obtain ⟨hq, hz⟩ := hq
  obtain ⟨c, f, hv, hy, x, rfl, q1, q2⟩ := hq
  have cf : (∀ a b : Int, 309 ≤ a → a ≤ 7657 → s' a b = s a b) := fun a b q _ => f a b (by first | exact not_false | (unfold R_X11_better_1; omega))
  have lc : y_LC s s' := ⟨c, hv, h.2.2.1.fr h.1 cf, h.2.2.2.1.keep cf, cf⟩
  have k5 : y_K5 s s' := ⟨hz, t8.2.1.fr (fun a b p => f a b (by first | exact not_false | (unfold R_X11_better_1; omega))), by rw [f 296 9 (by first | exact not_false | (unfold R_X11_better_1; omega))]; omega⟩
  have sc : y_SC s s' := fun a b q => f a b (by unfold y_SK0 at q; first | exact not_false | (unfold R_X11_better_1; omega))
  have h3 : ∀ j : Int, s' 3 j = s 3 j := fun j => f 3 j (by first | exact not_false | (unfold R_X11_better_1; omega))
  exact ⟨x, rfl, ⟨lc, sc⟩, h3, hy, k5⟩
theorem M_better {fu : Nat} (hfu : 8589934592 ≤ fu) {s s1 : z_M} (h : y_LX s) (t6 : y_I6 s) (t7 : y_J7 s) (lc : y_LC s s1) (km : y_KM s1) (ym : y_YM s1) (sc : y_SC s s1) : z_T (fX12_better fu s1 309) (fun v s' => ∃ y, v = vL y ∧ (y_LX s') ∧ (∀ a b : Int, a ≤ 308 ∨ a = 7658 ∨ a = 313 ∨ a = 314 → s' a b = s1 a b) ∧ (∀ j : Int, s' 312 j = s1 312 j) ∧ y_KM s' ∧ y_YM s') := by
  refine T_mono (T_and (T_and (sf_X12_better_309 hfu s1 lc.1 lc.2.2.1.1 lc.2.2.1.2.1 lc.2.2.1.2.2.1 lc.2.2.1.2.2.2) (T_mono (sf_X12_better_309K hfu s1 lc.1 lc.2.2.1.1 lc.2.2.1.2.1 lc.2.2.1.2.2.1 lc.2.2.1.2.2.2 km) (fun v w h9 => (h9.2.2.2.2.2.2.1 : y_KM w)))) (T_mono (sf_X12_better_309Y hfu s1 lc.1 lc.2.2.1.1 lc.2.2.1.2.1 lc.2.2.1.2.2.1 lc.2.2.1.2.2.2 km ym) (fun v w h9 => (h9.2.2.2.2.2.2.2.1 : y_YM w)))) (fun v s' hq => ?_)
  obtain ⟨hq, yn⟩ := hq
  obtain ⟨hq, kn⟩ := hq
  obtain ⟨c, f, hA, hD, hB, hK, y, rfl, q1, q2⟩ := hq
  have hm : ∀ a b : Int, a ≤ 308 ∨ a = 7658 → s' a b = s1 a b := fun a b q => f a b (by first | exact not_false | (unfold R_X12_better_309; omega))
  have hm3 : ∀ a b : Int, a ≤ 308 ∨ a = 7658 ∨ a = 313 ∨ a = 314 → s' a b = s1 a b := fun a b q => f a b (by first | exact not_false | (unfold R_X12_better_309; omega))
  have hS : ∀ j : Int, s' 312 j = s1 312 j := fun j => f 312 j (by first | exact not_false | (unfold R_X12_better_309; omega))
  have hk : ∀ a b : Int, y_KK a b → s' a b = s1 a b := fun a b q => by
    unfold y_KK at q
    exact f a b (by first | exact not_false | (unfold R_X12_better_309; omega))
  exact ⟨y, rfl, lc.nm h sc c ⟨hA, hD, hB, hK⟩ hm hk, hm3, hS, kn, yn⟩
theorem L_marks {fu : Nat} (hfu : 8589934592 ≤ fu) {s : z_M} (h : y_LX s) (t6 : y_I6 s) (t7 : y_J7 s) {n8 : Int} (t8 : y_J8 n8 s) (hn : n8 ≤ 4000) (p1 : Int) (b1 : -2147483648 ≤ p1 ∧ p1 ≤ 2147483647) : z_T (fL_marks fu s 1 p1 7658) (fun v s' => ∃ x, v = vI x ∧ (y_LC s s' ∧ y_SC s s') ∧ (∀ j : Int, s' 3 j = s 3 j) ∧ y_Y4 s' ∧ y_K5 s s') := by
  refine T_of (fL_marks.eq_1 ..) ?_
  refine T_if1 (by decide +kernel) ?_
  refine T_cI (T_mono (T_and (sf_X11_marks_1Y hfu s h.1 p1 b1 h.2.1 t7.2.2.2) (T_mono (sf_X11_marks_1Z hfu s h.1 p1 b1 h.2.1 t8.1) (fun v w h9 => (by first | exact h9.2.2.2.1 | exact h9.2.2.2.2.1 | exact h9.2.2.2.2.2.1 : y_Y5 w)))) (fun v s' hq => ?_))
  obtain ⟨hq, hz⟩ := hq
  obtain ⟨c, f, hv, hy, hq⟩ := hq
  have cf : (∀ a b : Int, 309 ≤ a → a ≤ 7657 → s' a b = s a b) := fun a b q _ => f a b (by first | exact not_false | (unfold R_X11_marks_1; omega))
  have lc : y_LC s s' := ⟨c, hv, h.2.2.1.fr h.1 cf, h.2.2.2.1.keep cf, cf⟩
  have k5 : y_K5 s s' := ⟨hz, t8.2.1.fr (fun a b p => f a b (by first | exact not_false | (unfold R_X11_marks_1; omega))), by rw [f 296 9 (by first | exact not_false | (unfold R_X11_marks_1; omega))]; omega⟩
  have sc : y_SC s s' := fun a b q => f a b (by unfold y_SK0 at q; first | exact not_false | (unfold R_X11_marks_1; omega))
  have h3 : ∀ j : Int, s' 3 j = s 3 j := fun j => f 3 j (by first | exact not_false | (unfold R_X11_marks_1; omega))
  rcases hq with ⟨x, rfl, q1, q2⟩ | rfl
  · refine T_vcI ?_
    refine T_if1 (by decide +kernel) ?_
    refine T_up ?_
    exact T_ret ⟨_, rfl, ⟨lc.out (by omega), sc.out⟩, fun j => (z_up_k (by decide)).trans (h3 j), hy.cls (fun a b q => z_up_k (by omega)), k5.out⟩
  · refine T_v1I ?_
    exact T_ret ⟨_, rfl, ⟨lc, sc⟩, h3, hy, k5⟩
theorem M_marks {fu : Nat} (hfu : 8589934592 ≤ fu) {s s1 : z_M} (h : y_LX s) (t6 : y_I6 s) (t7 : y_J7 s) (lc : y_LC s s1) (km : y_KM s1) (ym : y_YM s1) (p1 : Int) (b1 : -2147483648 ≤ p1 ∧ p1 ≤ 2147483647) (sc : y_SC s s1) : z_T (fX12_marks fu s1 309 p1) (fun v s' => ∃ y, v = vI y ∧ (y_LX s') ∧ (∀ a b : Int, a ≤ 308 ∨ a = 7658 ∨ a = 313 ∨ a = 314 → s' a b = s1 a b) ∧ (∀ j : Int, s' 312 j = s1 312 j) ∧ y_KM s' ∧ y_YM s') := by
  refine T_mono (T_and (sf_X12_marks_309 hfu s1 lc.1 p1 b1 lc.2.2.1.1 lc.2.2.1.2.1 lc.2.2.1.2.2.1 lc.2.2.1.2.2.2) (T_mono (sf_X12_marks_309Y hfu s1 lc.1 p1 b1 lc.2.2.1.1 lc.2.2.1.2.1 lc.2.2.1.2.2.1 lc.2.2.1.2.2.2 ym) (fun v w h9 => (h9.2.2.2.2.2.2.1 : y_YM w)))) (fun v s' hq => ?_)
  obtain ⟨hq, yn⟩ := hq
  obtain ⟨c, f, hA, hD, hB, hK, y, rfl, q1, q2⟩ := hq
  have hm : ∀ a b : Int, a ≤ 308 ∨ a = 7658 → s' a b = s1 a b := fun a b q => f a b (by first | exact not_false | (unfold R_X12_marks_309; omega))
  have hm3 : ∀ a b : Int, a ≤ 308 ∨ a = 7658 ∨ a = 313 ∨ a = 314 → s' a b = s1 a b := fun a b q => f a b (by first | exact not_false | (unfold R_X12_marks_309; omega))
  have hS : ∀ j : Int, s' 312 j = s1 312 j := fun j => f 312 j (by first | exact not_false | (unfold R_X12_marks_309; omega))
  have kn : y_KM s' := km.fr (f 309 20 (by first | exact not_false | (unfold R_X12_marks_309; omega))) (f 309 36 (by first | exact not_false | (unfold R_X12_marks_309; omega))) (f 309 38 (by first | exact not_false | (unfold R_X12_marks_309; omega))) (f 309 39 (by first | exact not_false | (unfold R_X12_marks_309; omega))) (fun b => f 312 b (by first | exact not_false | (unfold R_X12_marks_309; omega))) (fun b => f 331 b (by first | exact not_false | (unfold R_X12_marks_309; omega))) (fun b => f 346 b (by first | exact not_false | (unfold R_X12_marks_309; omega))) (fun b => f 361 b (by first | exact not_false | (unfold R_X12_marks_309; omega))) (fun b => f 391 b (by first | exact not_false | (unfold R_X12_marks_309; omega))) (fun a b q => f a b (by first | exact not_false | (unfold R_X12_marks_309; omega))) (fun a b q => f a b (by first | exact not_false | (unfold R_X12_marks_309; omega))) (fun a b q => f a b (by first | exact not_false | (unfold R_X12_marks_309; omega)))
  have hk : ∀ a b : Int, y_KK a b → s' a b = s1 a b := fun a b q => by
    unfold y_KK at q
    exact f a b (by first | exact not_false | (unfold R_X12_marks_309; omega))
  exact ⟨y, rfl, lc.nm h sc c ⟨hA, hD, hB, hK⟩ hm hk, hm3, hS, kn, yn⟩
theorem L_moves {fu : Nat} (hfu : 8589934592 ≤ fu) {s : z_M} (h : y_LX s) (t6 : y_I6 s) (t7 : y_J7 s) {n8 : Int} (t8 : y_J8 n8 s) (hn : n8 ≤ 4000) : z_T (fX11_moves fu s 1) (fun v s' => ∃ x, v = vI x ∧ (y_LC s s' ∧ y_SC s s') ∧ (∀ j : Int, s' 3 j = s 3 j) ∧ y_Y4 s' ∧ y_K5 s s') := by
  refine T_mono (T_and (T_and (sf_X11_moves_1Y hfu s h.1 h.2.1 t7.2.2.2) (sf_X11_moves_1S hfu s h.1 h.2.1.1.v.z)) (T_mono (sf_X11_moves_1Z hfu s h.1 h.2.1 t8.1) (fun v w h9 => (by first | exact h9.2.2.2.1 | exact h9.2.2.2.2.1 | exact h9.2.2.2.2.2.1 : y_Y5 w)))) (fun v s' hq => ?_)
  obtain ⟨hq, hz⟩ := hq
  obtain ⟨⟨c, f, hv, hy, x, rfl, q1, q2⟩, _, _, _, h3, _⟩ := hq
  have cf : (∀ a b : Int, 309 ≤ a → a ≤ 7657 → s' a b = s a b) := fun a b q _ => f a b (by first | exact not_false | (unfold R_X11_moves_1; omega))
  have lc : y_LC s s' := ⟨c, hv, h.2.2.1.fr h.1 cf, h.2.2.2.1.keep cf, cf⟩
  have k5 : y_K5 s s' := ⟨hz, t8.2.1.fr (fun a b p => f a b (by first | exact not_false | (unfold R_X11_moves_1; omega))), by rw [f 296 9 (by first | exact not_false | (unfold R_X11_moves_1; omega))]; omega⟩
  have sc : y_SC s s' := fun a b q => f a b (by unfold y_SK0 at q; first | exact not_false | (unfold R_X11_moves_1; omega))
  exact ⟨x, rfl, ⟨lc, sc⟩, h3, hy, k5⟩
theorem M_moves {fu : Nat} (hfu : 8589934592 ≤ fu) {s s1 : z_M} (h : y_LX s) (t6 : y_I6 s) (t7 : y_J7 s) (lc : y_LC s s1) (km : y_KM s1) (ym : y_YM s1) (sc : y_SC s s1) : z_T (fX12_moves fu s1 309) (fun v s' => ∃ y, v = vI y ∧ (y_LX s') ∧ (∀ a b : Int, a ≤ 308 ∨ a = 7658 ∨ a = 313 ∨ a = 314 → s' a b = s1 a b) ∧ (∀ j : Int, s' 312 j = s1 312 j) ∧ y_KM s' ∧ y_YM s') := by
  refine T_mono (T_and (T_and (sf_X12_moves_309 hfu s1 lc.1 lc.2.2.1.1 lc.2.2.1.2.1 lc.2.2.1.2.2.1 lc.2.2.1.2.2.2) (T_mono (sf_X12_moves_309K hfu s1 lc.1 lc.2.2.1.1 lc.2.2.1.2.1 lc.2.2.1.2.2.1 lc.2.2.1.2.2.2 km) (fun v w h9 => (h9.2.2.2.2.2.2.2.1 : y_KM w)))) (T_mono (sf_X12_moves_309Y hfu s1 lc.1 lc.2.2.1.1 lc.2.2.1.2.1 lc.2.2.1.2.2.1 lc.2.2.1.2.2.2 km ym) (fun v w h9 => (h9.2.2.2.2.2.2.2.2.1 : y_YM w)))) (fun v s' hq => ?_)
  obtain ⟨hq, yn⟩ := hq
  obtain ⟨hq, kn⟩ := hq
  obtain ⟨c, f, hS, hA, hD, hB, hK, y, rfl, q1, q2⟩ := hq
  have hm : ∀ a b : Int, a ≤ 308 ∨ a = 7658 → s' a b = s1 a b := fun a b q => f a b (by first | exact not_false | (unfold R_X12_moves_309; omega))
  have hm3 : ∀ a b : Int, a ≤ 308 ∨ a = 7658 ∨ a = 313 ∨ a = 314 → s' a b = s1 a b := fun a b q => f a b (by first | exact not_false | (unfold R_X12_moves_309; omega))
  have hk : ∀ a b : Int, y_KK a b → s' a b = s1 a b := fun a b q => by
    unfold y_KK at q
    exact f a b (by first | exact not_false | (unfold R_X12_moves_309; omega))
  exact ⟨y, rfl, lc.nm h sc c ⟨hA, hD, hB, hK⟩ hm hk, hm3, hS, kn, yn⟩
theorem L_lend {fu : Nat} (hfu : 8589934592 ≤ fu) {s : z_M} (h : y_LX s) (t6 : y_I6 s) (t7 : y_J7 s) {n8 : Int} (t8 : y_J8 n8 s) (hn : n8 ≤ 4000) (p1 : Int) (b1 : -2147483648 ≤ p1 ∧ p1 ≤ 2147483647) : z_T (fL_lend fu s 1 p1 7658) (fun v s' => ∃ x, v = vI x ∧ (y_LC s s' ∧ y_SC s s') ∧ (∀ j : Int, s' 3 j = s 3 j) ∧ y_Y4 s' ∧ y_K5 s s') := by
  refine T_of (fL_lend.eq_1 ..) ?_
  refine T_if1 (by decide +kernel) ?_
  refine T_cI (T_mono (T_and (sf_X11_lend_1Y hfu s h.1 p1 b1 h.2.1 t7.2.2.2) (T_mono (sf_X11_lend_1Z hfu s h.1 p1 b1 h.2.1 t8.1) (fun v w h9 => (by first | exact h9.2.2.2.1 | exact h9.2.2.2.2.1 | exact h9.2.2.2.2.2.1 : y_Y5 w)))) (fun v s' hq => ?_))
  obtain ⟨hq, hz⟩ := hq
  obtain ⟨c, f, hv, hy, hq⟩ := hq
  have cf : (∀ a b : Int, 309 ≤ a → a ≤ 7657 → s' a b = s a b) := fun a b q _ => f a b (by first | exact not_false | (unfold R_X11_lend_1; omega))
  have lc : y_LC s s' := ⟨c, hv, h.2.2.1.fr h.1 cf, h.2.2.2.1.keep cf, cf⟩
  have k5 : y_K5 s s' := ⟨hz, t8.2.1.fr (fun a b p => f a b (by first | exact not_false | (unfold R_X11_lend_1; omega))), by rw [f 296 9 (by first | exact not_false | (unfold R_X11_lend_1; omega))]; omega⟩
  have sc : y_SC s s' := fun a b q => f a b (by unfold y_SK0 at q; first | exact not_false | (unfold R_X11_lend_1; omega))
  have h3 : ∀ j : Int, s' 3 j = s 3 j := fun j => f 3 j (by first | exact not_false | (unfold R_X11_lend_1; omega))
  rcases hq with ⟨x, rfl, q1, q2⟩ | rfl
  · refine T_vcI ?_
    refine T_if1 (by decide +kernel) ?_
    refine T_up ?_
    exact T_ret ⟨_, rfl, ⟨lc.out (by omega), sc.out⟩, fun j => (z_up_k (by decide)).trans (h3 j), hy.cls (fun a b q => z_up_k (by omega)), k5.out⟩
  · refine T_v1I ?_
    exact T_ret ⟨_, rfl, ⟨lc, sc⟩, h3, hy, k5⟩
theorem M_lend {fu : Nat} (hfu : 8589934592 ≤ fu) {s s1 : z_M} (h : y_LX s) (t6 : y_I6 s) (t7 : y_J7 s) (lc : y_LC s s1) (km : y_KM s1) (ym : y_YM s1) (p1 : Int) (b1 : -2147483648 ≤ p1 ∧ p1 ≤ 2147483647) (sc : y_SC s s1) : z_T (fX12_lend fu s1 309 p1) (fun v s' => ∃ y, v = vI y ∧ (y_LX s') ∧ (∀ a b : Int, a ≤ 308 ∨ a = 7658 ∨ a = 313 ∨ a = 314 → s' a b = s1 a b) ∧ (∀ j : Int, s' 312 j = s1 312 j) ∧ y_KM s' ∧ y_YM s') := by
  refine T_mono (T_and (sf_X12_lend_309T hfu s1 lc.1 p1 b1 lc.2.2.1.1 lc.2.2.1.2.1 lc.2.2.1.2.2.1 lc.2.2.1.2.2.2) (T_mono (sf_X12_lend_309Y hfu s1 lc.1 p1 b1 lc.2.2.1.1 lc.2.2.1.2.1 lc.2.2.1.2.2.1 lc.2.2.1.2.2.2 ym) (fun v w h9 => (h9.2.2.2.2.2.2.2.1 : y_YM w)))) (fun v s' hq => ?_)
  obtain ⟨hq, yn⟩ := hq
  obtain ⟨c, f, hS, hA, hD, hB, hK, k1, y, rfl, q1, q2⟩ := hq
  have hm : ∀ a b : Int, a ≤ 308 ∨ a = 7658 → s' a b = s1 a b := fun a b q => f a b (by first | exact not_false | (unfold R_X12_lend_309; omega))
  have hm3 : ∀ a b : Int, a ≤ 308 ∨ a = 7658 ∨ a = 313 ∨ a = 314 → s' a b = s1 a b := fun a b q => f a b (by first | exact not_false | (unfold R_X12_lend_309; omega))
  have kn : y_KM s' := km.fr (f 309 20 (by first | exact not_false | (unfold R_X12_lend_309; omega))) (f 309 36 (by first | exact not_false | (unfold R_X12_lend_309; omega))) (f 309 38 (by first | exact not_false | (unfold R_X12_lend_309; omega))) (f 309 39 (by first | exact not_false | (unfold R_X12_lend_309; omega))) hS (fun b => f 331 b (by first | exact not_false | (unfold R_X12_lend_309; omega))) (fun b => f 346 b (by first | exact not_false | (unfold R_X12_lend_309; omega))) (fun b => f 361 b (by first | exact not_false | (unfold R_X12_lend_309; omega))) (fun b => f 391 b (by first | exact not_false | (unfold R_X12_lend_309; omega))) (fun a b q => f a b (by first | exact not_false | (unfold R_X12_lend_309; omega))) (fun a b q => f a b (by first | exact not_false | (unfold R_X12_lend_309; omega))) (fun a b q => f a b (by first | exact not_false | (unfold R_X12_lend_309; omega)))
  have hk : ∀ a b : Int, y_KK a b → s' a b = s1 a b := fun a b q => by
    unfold y_KK at q
    by_cases q9 : a = 311
    · subst q9; exact k1 b
    · exact f a b (by first | exact not_false | (unfold R_X12_lend_309; omega))
  exact ⟨y, rfl, lc.nm h sc c ⟨hA, hD, hB, hK⟩ hm hk, hm3, hS, kn, yn⟩
theorem L_nearest {fu : Nat} (hfu : 8589934592 ≤ fu) {s : z_M} (h : y_LX s) (t6 : y_I6 s) (t7 : y_J7 s) {n8 : Int} (t8 : y_J8 n8 s) (hn : n8 ≤ 4000) (p1 : Int) (b1 : -2147483648 ≤ p1 ∧ p1 ≤ 2147483647) : z_T (fL_nearest fu s 1 p1 7658) (fun v s' => ∃ x, v = vI x ∧ (y_LC s s' ∧ y_SC s s') ∧ (∀ j : Int, s' 3 j = s 3 j) ∧ y_Y4 s' ∧ y_K5 s s') := by
  refine T_of (fL_nearest.eq_1 ..) ?_
  refine T_if1 (by decide +kernel) ?_
  refine T_cI (T_mono (T_and (sf_X11_nearest_1Y hfu s h.1 p1 b1 h.2.1 t7.2.2.2) (T_mono (sf_X11_nearest_1Z hfu s h.1 p1 b1 h.2.1 t8.1) (fun v w h9 => (by first | exact h9.2.2.2.1 | exact h9.2.2.2.2.1 | exact h9.2.2.2.2.2.1 : y_Y5 w)))) (fun v s' hq => ?_))
  obtain ⟨hq, hz⟩ := hq
  obtain ⟨c, f, hv, hy, hq⟩ := hq
  have cf : (∀ a b : Int, 309 ≤ a → a ≤ 7657 → s' a b = s a b) := fun a b q _ => f a b (by first | exact not_false | (unfold R_X11_nearest_1; omega))
  have lc : y_LC s s' := ⟨c, hv, h.2.2.1.fr h.1 cf, h.2.2.2.1.keep cf, cf⟩
  have k5 : y_K5 s s' := ⟨hz, t8.2.1.fr (fun a b p => f a b (by first | exact not_false | (unfold R_X11_nearest_1; omega))), by rw [f 296 9 (by first | exact not_false | (unfold R_X11_nearest_1; omega))]; omega⟩
  have sc : y_SC s s' := fun a b q => f a b (by unfold y_SK0 at q; first | exact not_false | (unfold R_X11_nearest_1; omega))
  have h3 : ∀ j : Int, s' 3 j = s 3 j := fun j => f 3 j (by first | exact not_false | (unfold R_X11_nearest_1; omega))
  rcases hq with ⟨x, rfl, q1, q2⟩ | rfl
  · refine T_vcI ?_
    refine T_if1 (by decide +kernel) ?_
    refine T_up ?_
    exact T_ret ⟨_, rfl, ⟨lc.out (by omega), sc.out⟩, fun j => (z_up_k (by decide)).trans (h3 j), hy.cls (fun a b q => z_up_k (by omega)), k5.out⟩
  · refine T_v1I ?_
    exact T_ret ⟨_, rfl, ⟨lc, sc⟩, h3, hy, k5⟩
theorem M_nearest {fu : Nat} (hfu : 8589934592 ≤ fu) {s s1 : z_M} (h : y_LX s) (t6 : y_I6 s) (t7 : y_J7 s) (lc : y_LC s s1) (km : y_KM s1) (ym : y_YM s1) (p1 : Int) (b1 : -2147483648 ≤ p1 ∧ p1 ≤ 2147483647) (sc : y_SC s s1) : z_T (fX12_nearest fu s1 309 p1) (fun v s' => ∃ y, v = vI y ∧ (y_LX s') ∧ (∀ a b : Int, a ≤ 308 ∨ a = 7658 ∨ a = 313 ∨ a = 314 → s' a b = s1 a b) ∧ (∀ j : Int, s' 312 j = s1 312 j) ∧ y_KM s' ∧ y_YM s') := by
  refine T_mono (T_and (T_and (sf_X12_nearest_309 hfu s1 lc.1 p1 b1 lc.2.2.1.1 lc.2.2.1.2.1 lc.2.2.1.2.2.1 lc.2.2.1.2.2.2) (T_mono (sf_X12_nearest_309K hfu s1 lc.1 p1 b1 lc.2.2.1.1 lc.2.2.1.2.1 lc.2.2.1.2.2.1 lc.2.2.1.2.2.2 km) (fun v w h9 => (h9.2.2.2.2.2.2.1 : y_KM w)))) (T_mono (sf_X12_nearest_309Y hfu s1 lc.1 p1 b1 lc.2.2.1.1 lc.2.2.1.2.1 lc.2.2.1.2.2.1 lc.2.2.1.2.2.2 km ym) (fun v w h9 => (h9.2.2.2.2.2.2.2.1 : y_YM w)))) (fun v s' hq => ?_)
  obtain ⟨hq, yn⟩ := hq
  obtain ⟨hq, kn⟩ := hq
  obtain ⟨c, f, hA, hD, hB, hK, y, rfl, q1, q2⟩ := hq
  have hm : ∀ a b : Int, a ≤ 308 ∨ a = 7658 → s' a b = s1 a b := fun a b q => f a b (by first | exact not_false | (unfold R_X12_nearest_309; omega))
  have hm3 : ∀ a b : Int, a ≤ 308 ∨ a = 7658 ∨ a = 313 ∨ a = 314 → s' a b = s1 a b := fun a b q => f a b (by first | exact not_false | (unfold R_X12_nearest_309; omega))
  have hS : ∀ j : Int, s' 312 j = s1 312 j := fun j => f 312 j (by first | exact not_false | (unfold R_X12_nearest_309; omega))
  have hk : ∀ a b : Int, y_KK a b → s' a b = s1 a b := fun a b q => by
    unfold y_KK at q
    exact f a b (by first | exact not_false | (unfold R_X12_nearest_309; omega))
  exact ⟨y, rfl, lc.nm h sc c ⟨hA, hD, hB, hK⟩ hm hk, hm3, hS, kn, yn⟩
theorem L_partner {fu : Nat} (hfu : 8589934592 ≤ fu) {s : z_M} (h : y_LX s) (t6 : y_I6 s) (t7 : y_J7 s) {n8 : Int} (t8 : y_J8 n8 s) (hn : n8 ≤ 4000) (p1 : Int) (b1 : -2147483648 ≤ p1 ∧ p1 ≤ 2147483647) : z_T (fL_partner fu s 1 p1 7658) (fun v s' => ∃ x, v = vI x ∧ (y_LC s s' ∧ y_SC s s') ∧ (∀ j : Int, s' 3 j = s 3 j) ∧ y_Y4 s' ∧ y_K5 s s') := by
  refine T_of (fL_partner.eq_1 ..) ?_
  refine T_if1 (by decide +kernel) ?_
  refine T_cI (T_mono (T_and (sf_X11_partner_1Y hfu s h.1 p1 b1 h.2.1 t7.2.2.2) (T_mono (sf_X11_partner_1Z hfu s h.1 p1 b1 h.2.1 t8.1) (fun v w h9 => (by first | exact h9.2.2.2.1 | exact h9.2.2.2.2.1 | exact h9.2.2.2.2.2.1 : y_Y5 w)))) (fun v s' hq => ?_))
  obtain ⟨hq, hz⟩ := hq
  obtain ⟨c, f, hv, hy, hq⟩ := hq
  have cf : (∀ a b : Int, 309 ≤ a → a ≤ 7657 → s' a b = s a b) := fun a b q _ => f a b (by first | exact not_false | (unfold R_X11_partner_1; omega))
  have lc : y_LC s s' := ⟨c, hv, h.2.2.1.fr h.1 cf, h.2.2.2.1.keep cf, cf⟩
  have k5 : y_K5 s s' := ⟨hz, t8.2.1.fr (fun a b p => f a b (by first | exact not_false | (unfold R_X11_partner_1; omega))), by rw [f 296 9 (by first | exact not_false | (unfold R_X11_partner_1; omega))]; omega⟩
  have sc : y_SC s s' := fun a b q => f a b (by unfold y_SK0 at q; first | exact not_false | (unfold R_X11_partner_1; omega))
  have h3 : ∀ j : Int, s' 3 j = s 3 j := fun j => f 3 j (by first | exact not_false | (unfold R_X11_partner_1; omega))
  rcases hq with ⟨x, rfl, q1, q2⟩ | rfl
  · refine T_vcI ?_
    refine T_if1 (by decide +kernel) ?_
    refine T_up ?_
    exact T_ret ⟨_, rfl, ⟨lc.out (by omega), sc.out⟩, fun j => (z_up_k (by decide)).trans (h3 j), hy.cls (fun a b q => z_up_k (by omega)), k5.out⟩
  · refine T_v0I ?_
    exact T_ret ⟨_, rfl, ⟨lc, sc⟩, h3, hy, k5⟩
theorem M_partner {fu : Nat} (hfu : 8589934592 ≤ fu) {s s1 : z_M} (h : y_LX s) (t6 : y_I6 s) (t7 : y_J7 s) (lc : y_LC s s1) (km : y_KM s1) (ym : y_YM s1) (p1 : Int) (b1 : -2147483648 ≤ p1 ∧ p1 ≤ 2147483647) (sc : y_SC s s1) : z_T (fX12_partner fu s1 309 p1) (fun v s' => ∃ y, v = vI y ∧ (y_LX s') ∧ (∀ a b : Int, a ≤ 308 ∨ a = 7658 ∨ a = 313 ∨ a = 314 → s' a b = s1 a b) ∧ (∀ j : Int, s' 312 j = s1 312 j) ∧ y_KM s' ∧ y_YM s') := by
  refine T_mono (T_and (T_and (sf_X12_partner_309 hfu s1 lc.1 p1 b1 lc.2.2.1.1 lc.2.2.1.2.1 lc.2.2.1.2.2.1 lc.2.2.1.2.2.2) (T_mono (sf_X12_partner_309K hfu s1 lc.1 p1 b1 lc.2.2.1.1 lc.2.2.1.2.1 lc.2.2.1.2.2.1 lc.2.2.1.2.2.2 km) (fun v w h9 => (h9.2.2.2.2.2.2.1 : y_KM w)))) (T_mono (sf_X12_partner_309Y hfu s1 lc.1 p1 b1 lc.2.2.1.1 lc.2.2.1.2.1 lc.2.2.1.2.2.1 lc.2.2.1.2.2.2 km ym) (fun v w h9 => (h9.2.2.2.2.2.2.2.1 : y_YM w)))) (fun v s' hq => ?_)
  obtain ⟨hq, yn⟩ := hq
  obtain ⟨hq, kn⟩ := hq
  obtain ⟨c, f, hA, hD, hB, hK, y, rfl, q1, q2⟩ := hq
  have hm : ∀ a b : Int, a ≤ 308 ∨ a = 7658 → s' a b = s1 a b := fun a b q => f a b (by first | exact not_false | (unfold R_X12_partner_309; omega))
  have hm3 : ∀ a b : Int, a ≤ 308 ∨ a = 7658 ∨ a = 313 ∨ a = 314 → s' a b = s1 a b := fun a b q => f a b (by first | exact not_false | (unfold R_X12_partner_309; omega))
  have hS : ∀ j : Int, s' 312 j = s1 312 j := fun j => f 312 j (by first | exact not_false | (unfold R_X12_partner_309; omega))
  have hk : ∀ a b : Int, y_KK a b → s' a b = s1 a b := fun a b q => by
    unfold y_KK at q
    exact f a b (by first | exact not_false | (unfold R_X12_partner_309; omega))
  exact ⟨y, rfl, lc.nm h sc c ⟨hA, hD, hB, hK⟩ hm hk, hm3, hS, kn, yn⟩
theorem L_side {fu : Nat} (hfu : 8589934592 ≤ fu) {s : z_M} (h : y_LX s) (t6 : y_I6 s) (t7 : y_J7 s) {n8 : Int} (t8 : y_J8 n8 s) (hn : n8 ≤ 4000) (p1 : Int) (p2 : Int) (p3 : Int) (b1 : -2147483648 ≤ p1 ∧ p1 ≤ 2147483647) (b2 : -2147483648 ≤ p2 ∧ p2 ≤ 2147483647) (b3 : -2147483648 ≤ p3 ∧ p3 ≤ 2147483647) : z_T (fL_side fu s 1 p1 p2 p3 7658) (fun v s' => ∃ x, v = vI x ∧ (y_LC s s' ∧ y_SC s s') ∧ (∀ j : Int, s' 3 j = s 3 j) ∧ y_Y4 s' ∧ y_K5 s s') := by
  refine T_of (fL_side.eq_1 ..) ?_
  refine T_if1 (by decide +kernel) ?_
  refine T_cI (T_mono (T_and (sf_X11_side_1Y hfu s h.1 p1 p2 p3 b1 b2 b3 h.2.1 t7.2.2.2) (T_mono (sf_X11_side_1Z hfu s h.1 p1 p2 p3 b1 b2 b3 h.2.1 t8.1) (fun v w h9 => (by first | exact h9.2.2.2.1 | exact h9.2.2.2.2.1 | exact h9.2.2.2.2.2.1 : y_Y5 w)))) (fun v s' hq => ?_))
  obtain ⟨hq, hz⟩ := hq
  obtain ⟨c, f, hv, hy, hq⟩ := hq
  have cf : (∀ a b : Int, 309 ≤ a → a ≤ 7657 → s' a b = s a b) := fun a b q _ => f a b (by first | exact not_false | (unfold R_X11_side_1; omega))
  have lc : y_LC s s' := ⟨c, hv, h.2.2.1.fr h.1 cf, h.2.2.2.1.keep cf, cf⟩
  have k5 : y_K5 s s' := ⟨hz, t8.2.1.fr (fun a b p => f a b (by first | exact not_false | (unfold R_X11_side_1; omega))), by rw [f 296 9 (by first | exact not_false | (unfold R_X11_side_1; omega))]; omega⟩
  have sc : y_SC s s' := fun a b q => f a b (by unfold y_SK0 at q; first | exact not_false | (unfold R_X11_side_1; omega))
  have h3 : ∀ j : Int, s' 3 j = s 3 j := fun j => f 3 j (by first | exact not_false | (unfold R_X11_side_1; omega))
  rcases hq with ⟨x, rfl, q1, q2⟩ | rfl | rfl
  · refine T_vcI ?_
    refine T_if1 (by decide +kernel) ?_
    refine T_up ?_
    exact T_ret ⟨_, rfl, ⟨lc.out (by omega), sc.out⟩, fun j => (z_up_k (by decide)).trans (h3 j), hy.cls (fun a b q => z_up_k (by omega)), k5.out⟩
  · refine T_v0I ?_
    exact T_ret ⟨_, rfl, ⟨lc, sc⟩, h3, hy, k5⟩
  · refine T_v1I ?_
    exact T_ret ⟨_, rfl, ⟨lc, sc⟩, h3, hy, k5⟩
theorem M_side {fu : Nat} (hfu : 8589934592 ≤ fu) {s s1 : z_M} (h : y_LX s) (t6 : y_I6 s) (t7 : y_J7 s) (lc : y_LC s s1) (km : y_KM s1) (ym : y_YM s1) (p1 : Int) (p2 : Int) (p3 : Int) (b1 : -2147483648 ≤ p1 ∧ p1 ≤ 2147483647) (b2 : -2147483648 ≤ p2 ∧ p2 ≤ 2147483647) (b3 : -2147483648 ≤ p3 ∧ p3 ≤ 2147483647) (sc : y_SC s s1) : z_T (fX12_side fu s1 309 p1 p2 p3) (fun v s' => ∃ y, v = vI y ∧ (y_LX s') ∧ (∀ a b : Int, a ≤ 308 ∨ a = 7658 ∨ a = 313 ∨ a = 314 → s' a b = s1 a b) ∧ (∀ j : Int, s' 312 j = s1 312 j) ∧ y_KM s' ∧ y_YM s') := by
  refine T_mono (T_and (T_and (sf_X12_side_309 hfu s1 lc.1 p1 p2 p3 b1 b2 b3 lc.2.2.1.1 lc.2.2.1.2.1 lc.2.2.1.2.2.1 lc.2.2.1.2.2.2) (T_mono (sf_X12_side_309K hfu s1 lc.1 p1 p2 p3 b1 b2 b3 lc.2.2.1.1 lc.2.2.1.2.1 lc.2.2.1.2.2.1 lc.2.2.1.2.2.2 km) (fun v w h9 => (h9.2.2.2.2.2.2.1 : y_KM w)))) (T_mono (sf_X12_side_309Y hfu s1 lc.1 p1 p2 p3 b1 b2 b3 lc.2.2.1.1 lc.2.2.1.2.1 lc.2.2.1.2.2.1 lc.2.2.1.2.2.2 km ym) (fun v w h9 => (h9.2.2.2.2.2.2.2.1 : y_YM w)))) (fun v s' hq => ?_)
  obtain ⟨hq, yn⟩ := hq
  obtain ⟨hq, kn⟩ := hq
  obtain ⟨c, f, hA, hD, hB, hK, y, rfl, q1, q2⟩ := hq
  have hm : ∀ a b : Int, a ≤ 308 ∨ a = 7658 → s' a b = s1 a b := fun a b q => f a b (by first | exact not_false | (unfold R_X12_side_309; omega))
  have hm3 : ∀ a b : Int, a ≤ 308 ∨ a = 7658 ∨ a = 313 ∨ a = 314 → s' a b = s1 a b := fun a b q => f a b (by first | exact not_false | (unfold R_X12_side_309; omega))
  have hS : ∀ j : Int, s' 312 j = s1 312 j := fun j => f 312 j (by first | exact not_false | (unfold R_X12_side_309; omega))
  have hk : ∀ a b : Int, y_KK a b → s' a b = s1 a b := fun a b q => by
    unfold y_KK at q
    exact f a b (by first | exact not_false | (unfold R_X12_side_309; omega))
  exact ⟨y, rfl, lc.nm h sc c ⟨hA, hD, hB, hK⟩ hm hk, hm3, hS, kn, yn⟩
theorem L_gutter {fu : Nat} (hfu : 8589934592 ≤ fu) {s : z_M} (h : y_LX s) (t6 : y_I6 s) (t7 : y_J7 s) {n8 : Int} (t8 : y_J8 n8 s) (hn : n8 ≤ 4000) (p1 : Int) (b1 : -2147483648 ≤ p1 ∧ p1 ≤ 2147483647) : z_T (fL_gutter fu s 1 p1 7658) (fun v s' => ∃ x, v = vI x ∧ (y_LC s s' ∧ y_SC s s') ∧ (∀ j : Int, s' 3 j = s 3 j) ∧ y_Y4 s' ∧ y_K5 s s') := by
  refine T_of (fL_gutter.eq_1 ..) ?_
  refine T_if1 (by decide +kernel) ?_
  refine T_cI (T_mono (T_and (sf_X11_gutter_1Y hfu s h.1 p1 b1 h.2.1 t7.2.2.2) (e_cgutter hfu h.1 h.2.1 t7.2.2.2 t8.1 t8.2.1 (by have := t8.2.2; omega) t7.r8 (fun sr rf => h.ok7 t6 t7 rf))) (fun v s' hq => ?_))
  obtain ⟨hq, k5, g⟩ := hq
  obtain ⟨c, f, hv, hy, hq⟩ := hq
  have cf : (∀ a b : Int, 309 ≤ a → a ≤ 7657 → s' a b = s a b) := fun a b q _ => f a b (by first | exact not_false | (unfold R_X11_gutter_1; omega))
  have lc : y_LC s s' := ⟨c, hv, h.2.2.1.fr h.1 cf, h.2.2.2.1.keep cf, cf⟩
  have sc : y_SC s s' := fun a b q => f a b (by unfold y_SK0 at q; first | exact not_false | (unfold R_X11_gutter_1; omega))
  have h3 : ∀ j : Int, s' 3 j = s 3 j := fun j => f 3 j (by first | exact not_false | (unfold R_X11_gutter_1; omega))
  rcases hq with ⟨x, rfl, q1, q2⟩ | rfl
  · refine T_vcI ?_
    refine T_if1 (by decide +kernel) ?_
    refine T_up ?_
    exact T_ret ⟨_, rfl, ⟨lc.out (by omega), sc.out⟩, fun j => (z_up_k (by decide)).trans (h3 j), hy.cls (fun a b q => z_up_k (by omega)), k5.out⟩
  · refine T_v0I ?_
    exact T_ret ⟨_, rfl, ⟨lc, sc⟩, h3, hy, k5⟩
theorem M_gutter {fu : Nat} (hfu : 8589934592 ≤ fu) {s s1 : z_M} (h : y_LX s) (t6 : y_I6 s) (t7 : y_J7 s) (lc : y_LC s s1) (km : y_KM s1) (ym : y_YM s1) (p1 : Int) (b1 : -2147483648 ≤ p1 ∧ p1 ≤ 2147483647) (sc : y_SC s s1) : z_T (fX12_gutter fu s1 309 p1) (fun v s' => ∃ y, v = vI y ∧ (y_LX s') ∧ (∀ a b : Int, a ≤ 308 ∨ a = 7658 ∨ a = 313 ∨ a = 314 → s' a b = s1 a b) ∧ (∀ j : Int, s' 312 j = s1 312 j) ∧ y_KM s' ∧ y_YM s') := by
  refine T_mono (T_and (T_and (sf_X12_gutter_309 hfu s1 lc.1 p1 b1 lc.2.2.1.1 lc.2.2.1.2.1 lc.2.2.1.2.2.1 lc.2.2.1.2.2.2) (T_mono (sf_X12_gutter_309K hfu s1 lc.1 p1 b1 lc.2.2.1.1 lc.2.2.1.2.1 lc.2.2.1.2.2.1 lc.2.2.1.2.2.2 km) (fun v w h9 => (h9.2.2.2.2.2.2.1 : y_KM w)))) (T_mono (sf_X12_gutter_309Y hfu s1 lc.1 p1 b1 lc.2.2.1.1 lc.2.2.1.2.1 lc.2.2.1.2.2.1 lc.2.2.1.2.2.2 km ym) (fun v w h9 => (h9.2.2.2.2.2.2.2.1 : y_YM w)))) (fun v s' hq => ?_)
  obtain ⟨hq, yn⟩ := hq
  obtain ⟨hq, kn⟩ := hq
  obtain ⟨c, f, hA, hD, hB, hK, y, rfl, q1, q2⟩ := hq
  have hm : ∀ a b : Int, a ≤ 308 ∨ a = 7658 → s' a b = s1 a b := fun a b q => f a b (by first | exact not_false | (unfold R_X12_gutter_309; omega))
  have hm3 : ∀ a b : Int, a ≤ 308 ∨ a = 7658 ∨ a = 313 ∨ a = 314 → s' a b = s1 a b := fun a b q => f a b (by first | exact not_false | (unfold R_X12_gutter_309; omega))
  have hS : ∀ j : Int, s' 312 j = s1 312 j := fun j => f 312 j (by first | exact not_false | (unfold R_X12_gutter_309; omega))
  have hk : ∀ a b : Int, y_KK a b → s' a b = s1 a b := fun a b q => by
    unfold y_KK at q
    exact f a b (by first | exact not_false | (unfold R_X12_gutter_309; omega))
  exact ⟨y, rfl, lc.nm h sc c ⟨hA, hD, hB, hK⟩ hm hk, hm3, hS, kn, yn⟩
theorem L_clash {fu : Nat} (hfu : 8589934592 ≤ fu) {s : z_M} (h : y_LX s) (t6 : y_I6 s) (t7 : y_J7 s) {n8 : Int} (t8 : y_J8 n8 s) (hn : n8 ≤ 4000) (p1 : Int) (b1 : -2147483648 ≤ p1 ∧ p1 ≤ 2147483647) : z_T (fL_clash fu s 1 p1 7658) (fun v s' => ∃ x, v = vI x ∧ (y_LC s s' ∧ y_SC s s') ∧ (∀ j : Int, s' 3 j = s 3 j) ∧ y_Y4 s' ∧ y_K5 s s') := by
  refine T_of (fL_clash.eq_1 ..) ?_
  refine T_if1 (by decide +kernel) ?_
  refine T_cI (T_mono (T_and (sf_X11_clash_1Y hfu s h.1 p1 b1 h.2.1 t7.2.2.2) (e_cclash hfu h.1 h.2.1 t7.2.2.2 t8.1 t8.2.1 (by have := t8.2.2; omega) t7.r8 (fun sr rf => h.ok7 t6 t7 rf))) (fun v s' hq => ?_))
  obtain ⟨hq, k5, g⟩ := hq
  obtain ⟨c, f, hv, hy, hq⟩ := hq
  have cf : (∀ a b : Int, 309 ≤ a → a ≤ 7657 → s' a b = s a b) := fun a b q _ => f a b (by first | exact not_false | (unfold R_X11_clash_1; omega))
  have lc : y_LC s s' := ⟨c, hv, h.2.2.1.fr h.1 cf, h.2.2.2.1.keep cf, cf⟩
  have sc : y_SC s s' := fun a b q => f a b (by unfold y_SK0 at q; first | exact not_false | (unfold R_X11_clash_1; omega))
  have h3 : ∀ j : Int, s' 3 j = s 3 j := fun j => f 3 j (by first | exact not_false | (unfold R_X11_clash_1; omega))
  rcases hq with ⟨x, rfl, q1, q2⟩ | rfl
  · refine T_vcI ?_
    refine T_if1 (by decide +kernel) ?_
    refine T_up ?_
    exact T_ret ⟨_, rfl, ⟨lc.out (by omega), sc.out⟩, fun j => (z_up_k (by decide)).trans (h3 j), hy.cls (fun a b q => z_up_k (by omega)), k5.out⟩
  · refine T_v0I ?_
    exact T_ret ⟨_, rfl, ⟨lc, sc⟩, h3, hy, k5⟩
theorem M_clash {fu : Nat} (hfu : 8589934592 ≤ fu) {s s1 : z_M} (h : y_LX s) (t6 : y_I6 s) (t7 : y_J7 s) (lc : y_LC s s1) (km : y_KM s1) (ym : y_YM s1) (p1 : Int) (b1 : -2147483648 ≤ p1 ∧ p1 ≤ 2147483647) (sc : y_SC s s1) : z_T (fX12_clash fu s1 309 p1) (fun v s' => ∃ y, v = vI y ∧ (y_LX s') ∧ (∀ a b : Int, a ≤ 308 ∨ a = 7658 ∨ a = 313 ∨ a = 314 → s' a b = s1 a b) ∧ (∀ j : Int, s' 312 j = s1 312 j) ∧ y_KM s' ∧ y_YM s') := by
  refine T_mono (T_and (T_and (sf_X12_clash_309 hfu s1 lc.1 p1 b1 lc.2.2.1.1 lc.2.2.1.2.1 lc.2.2.1.2.2.1 lc.2.2.1.2.2.2) (T_mono (sf_X12_clash_309K hfu s1 lc.1 p1 b1 lc.2.2.1.1 lc.2.2.1.2.1 lc.2.2.1.2.2.1 lc.2.2.1.2.2.2 km) (fun v w h9 => (h9.2.2.2.2.2.2.1 : y_KM w)))) (T_mono (sf_X12_clash_309Y hfu s1 lc.1 p1 b1 lc.2.2.1.1 lc.2.2.1.2.1 lc.2.2.1.2.2.1 lc.2.2.1.2.2.2 km ym) (fun v w h9 => (h9.2.2.2.2.2.2.2.1 : y_YM w)))) (fun v s' hq => ?_)
  obtain ⟨hq, yn⟩ := hq
  obtain ⟨hq, kn⟩ := hq
  obtain ⟨c, f, hA, hD, hB, hK, y, rfl, q1, q2⟩ := hq
  have hm : ∀ a b : Int, a ≤ 308 ∨ a = 7658 → s' a b = s1 a b := fun a b q => f a b (by first | exact not_false | (unfold R_X12_clash_309; omega))
  have hm3 : ∀ a b : Int, a ≤ 308 ∨ a = 7658 ∨ a = 313 ∨ a = 314 → s' a b = s1 a b := fun a b q => f a b (by first | exact not_false | (unfold R_X12_clash_309; omega))
  have hS : ∀ j : Int, s' 312 j = s1 312 j := fun j => f 312 j (by first | exact not_false | (unfold R_X12_clash_309; omega))
  have hk : ∀ a b : Int, y_KK a b → s' a b = s1 a b := fun a b q => by
    unfold y_KK at q
    exact f a b (by first | exact not_false | (unfold R_X12_clash_309; omega))
  exact ⟨y, rfl, lc.nm h sc c ⟨hA, hD, hB, hK⟩ hm hk, hm3, hS, kn, yn⟩
theorem L_thick {fu : Nat} (hfu : 8589934592 ≤ fu) {s : z_M} (h : y_LX s) (t6 : y_I6 s) (t7 : y_J7 s) {n8 : Int} (t8 : y_J8 n8 s) (hn : n8 ≤ 4000) (p1 : Int) (p2 : Int) (b1 : -2147483648 ≤ p1 ∧ p1 ≤ 2147483647) (b2 : -2147483648 ≤ p2 ∧ p2 ≤ 2147483647) : z_T (fL_thick fu s 1 p1 p2 7658) (fun v s' => ∃ x, v = vI x ∧ (y_LC s s' ∧ y_SC s s') ∧ (∀ j : Int, s' 3 j = s 3 j) ∧ y_Y4 s' ∧ y_K5 s s') := by
  refine T_of (fL_thick.eq_1 ..) ?_
  refine T_if1 (by decide +kernel) ?_
  refine T_cI (T_mono (T_and (sf_X11_thick_1Y hfu s h.1 p1 p2 b1 b2 h.2.1 t7.2.2.2) (e_cthick hfu h.1 h.2.1 t7.2.2.2 t8.1 t8.2.1 (by have := t8.2.2; omega) t7.r8 (fun sr rf => h.ok7 t6 t7 rf))) (fun v s' hq => ?_))
  obtain ⟨hq, k5, g⟩ := hq
  obtain ⟨c, f, hv, hy, hq⟩ := hq
  have cf : (∀ a b : Int, 309 ≤ a → a ≤ 7657 → s' a b = s a b) := fun a b q _ => f a b (by first | exact not_false | (unfold R_X11_thick_1; omega))
  have lc : y_LC s s' := ⟨c, hv, h.2.2.1.fr h.1 cf, h.2.2.2.1.keep cf, cf⟩
  have sc : y_SC s s' := fun a b q => f a b (by unfold y_SK0 at q; first | exact not_false | (unfold R_X11_thick_1; omega))
  have h3 : ∀ j : Int, s' 3 j = s 3 j := fun j => f 3 j (by first | exact not_false | (unfold R_X11_thick_1; omega))
  rcases hq with ⟨x, rfl, q1, q2⟩ | rfl | rfl
  · refine T_vcI ?_
    refine T_if1 (by decide +kernel) ?_
    refine T_up ?_
    exact T_ret ⟨_, rfl, ⟨lc.out (by omega), sc.out⟩, fun j => (z_up_k (by decide)).trans (h3 j), hy.cls (fun a b q => z_up_k (by omega)), k5.out⟩
  · refine T_v0I ?_
    exact T_ret ⟨_, rfl, ⟨lc, sc⟩, h3, hy, k5⟩
  · refine T_v1I ?_
    exact T_ret ⟨_, rfl, ⟨lc, sc⟩, h3, hy, k5⟩
theorem M_thick {fu : Nat} (hfu : 8589934592 ≤ fu) {s s1 : z_M} (h : y_LX s) (t6 : y_I6 s) (t7 : y_J7 s) (lc : y_LC s s1) (km : y_KM s1) (ym : y_YM s1) (p1 : Int) (p2 : Int) (b1 : -2147483648 ≤ p1 ∧ p1 ≤ 2147483647) (b2 : -2147483648 ≤ p2 ∧ p2 ≤ 2147483647) (sc : y_SC s s1) : z_T (fX12_thick fu s1 309 p1 p2) (fun v s' => ∃ y, v = vI y ∧ (y_LX s') ∧ (∀ a b : Int, a ≤ 308 ∨ a = 7658 ∨ a = 313 ∨ a = 314 → s' a b = s1 a b) ∧ (∀ j : Int, s' 312 j = s1 312 j) ∧ y_KM s' ∧ y_YM s') := by
  refine T_mono (T_and (T_and (sf_X12_thick_309 hfu s1 lc.1 p1 p2 b1 b2 lc.2.2.1.1 lc.2.2.1.2.1 lc.2.2.1.2.2.1 lc.2.2.1.2.2.2) (T_mono (sf_X12_thick_309K hfu s1 lc.1 p1 p2 b1 b2 lc.2.2.1.1 lc.2.2.1.2.1 lc.2.2.1.2.2.1 lc.2.2.1.2.2.2 km) (fun v w h9 => (h9.2.2.2.2.2.2.1 : y_KM w)))) (T_mono (sf_X12_thick_309Y hfu s1 lc.1 p1 p2 b1 b2 lc.2.2.1.1 lc.2.2.1.2.1 lc.2.2.1.2.2.1 lc.2.2.1.2.2.2 km ym) (fun v w h9 => (h9.2.2.2.2.2.2.2.1 : y_YM w)))) (fun v s' hq => ?_)
  obtain ⟨hq, yn⟩ := hq
  obtain ⟨hq, kn⟩ := hq
  obtain ⟨c, f, hA, hD, hB, hK, y, rfl, q1, q2⟩ := hq
  have hm : ∀ a b : Int, a ≤ 308 ∨ a = 7658 → s' a b = s1 a b := fun a b q => f a b (by first | exact not_false | (unfold R_X12_thick_309; omega))
  have hm3 : ∀ a b : Int, a ≤ 308 ∨ a = 7658 ∨ a = 313 ∨ a = 314 → s' a b = s1 a b := fun a b q => f a b (by first | exact not_false | (unfold R_X12_thick_309; omega))
  have hS : ∀ j : Int, s' 312 j = s1 312 j := fun j => f 312 j (by first | exact not_false | (unfold R_X12_thick_309; omega))
  have hk : ∀ a b : Int, y_KK a b → s' a b = s1 a b := fun a b q => by
    unfold y_KK at q
    exact f a b (by first | exact not_false | (unfold R_X12_thick_309; omega))
  exact ⟨y, rfl, lc.nm h sc c ⟨hA, hD, hB, hK⟩ hm hk, hm3, hS, kn, yn⟩
theorem L_pages {fu : Nat} (hfu : 8589934592 ≤ fu) {s : z_M} (h : y_LX s) (t6 : y_I6 s) (t7 : y_J7 s) {n8 : Int} (t8 : y_J8 n8 s) (hn : n8 ≤ 4000) (p1 : Int) (b1 : -2147483648 ≤ p1 ∧ p1 ≤ 2147483647) : z_T (fL_pages fu s 1 p1 7658) (fun v s' => ∃ x, v = vI x ∧ (y_LC s s' ∧ y_SC s s') ∧ (∀ j : Int, s' 3 j = s 3 j) ∧ y_Y4 s' ∧ y_K5 s s') := by
  refine T_of (fL_pages.eq_1 ..) ?_
  refine T_if1 (by decide +kernel) ?_
  refine T_cI (T_mono (T_and (sf_X11_pages_1Y hfu s h.1 p1 b1 h.2.1 t7.2.2.2) (e_cpages hfu h.1 h.2.1 t7.2.2.2 t8.1 t8.2.1 (by have := t8.2.2; omega) t7.r8 (fun sr rf => h.ok7 t6 t7 rf))) (fun v s' hq => ?_))
  obtain ⟨hq, k5, g⟩ := hq
  obtain ⟨c, f, hv, hy, hq⟩ := hq
  have cf : (∀ a b : Int, 309 ≤ a → a ≤ 7657 → s' a b = s a b) := fun a b q _ => f a b (by first | exact not_false | (unfold R_X11_pages_1; omega))
  have lc : y_LC s s' := ⟨c, hv, h.2.2.1.fr h.1 cf, h.2.2.2.1.keep cf, cf⟩
  have sc : y_SC s s' := fun a b q => f a b (by unfold y_SK0 at q; first | exact not_false | (unfold R_X11_pages_1; omega))
  have h3 : ∀ j : Int, s' 3 j = s 3 j := fun j => f 3 j (by first | exact not_false | (unfold R_X11_pages_1; omega))
  rcases hq with ⟨x, rfl, q1, q2⟩ | rfl
  · refine T_vcI ?_
    refine T_if1 (by decide +kernel) ?_
    refine T_up ?_
    exact T_ret ⟨_, rfl, ⟨lc.out (by omega), sc.out⟩, fun j => (z_up_k (by decide)).trans (h3 j), hy.cls (fun a b q => z_up_k (by omega)), k5.out⟩
  · refine T_v1I ?_
    exact T_ret ⟨_, rfl, ⟨lc, sc⟩, h3, hy, k5⟩
theorem M_pages {fu : Nat} (hfu : 8589934592 ≤ fu) {s s1 : z_M} (h : y_LX s) (t6 : y_I6 s) (t7 : y_J7 s) (lc : y_LC s s1) (km : y_KM s1) (ym : y_YM s1) (p1 : Int) (b1 : -2147483648 ≤ p1 ∧ p1 ≤ 2147483647) (sc : y_SC s s1) : z_T (fX12_pages fu s1 309 p1) (fun v s' => ∃ y, v = vI y ∧ (y_LX s') ∧ (∀ a b : Int, a ≤ 308 ∨ a = 7658 ∨ a = 313 ∨ a = 314 → s' a b = s1 a b) ∧ (∀ j : Int, s' 312 j = s1 312 j) ∧ y_KM s' ∧ y_YM s') := by
  refine T_mono (T_and (T_and (sf_X12_pages_309 hfu s1 lc.1 p1 b1 lc.2.2.1.1 lc.2.2.1.2.1 lc.2.2.1.2.2.1 lc.2.2.1.2.2.2) (T_mono (sf_X12_pages_309K hfu s1 lc.1 p1 b1 lc.2.2.1.1 lc.2.2.1.2.1 lc.2.2.1.2.2.1 lc.2.2.1.2.2.2 km) (fun v w h9 => (h9.2.2.2.2.2.2.1 : y_KM w)))) (T_mono (sf_X12_pages_309Y hfu s1 lc.1 p1 b1 lc.2.2.1.1 lc.2.2.1.2.1 lc.2.2.1.2.2.1 lc.2.2.1.2.2.2 km ym) (fun v w h9 => (h9.2.2.2.2.2.2.2.1 : y_YM w)))) (fun v s' hq => ?_)
  obtain ⟨hq, yn⟩ := hq
  obtain ⟨hq, kn⟩ := hq
  obtain ⟨c, f, hA, hD, hB, hK, y, rfl, q1, q2⟩ := hq
  have hm : ∀ a b : Int, a ≤ 308 ∨ a = 7658 → s' a b = s1 a b := fun a b q => f a b (by first | exact not_false | (unfold R_X12_pages_309; omega))
  have hm3 : ∀ a b : Int, a ≤ 308 ∨ a = 7658 ∨ a = 313 ∨ a = 314 → s' a b = s1 a b := fun a b q => f a b (by first | exact not_false | (unfold R_X12_pages_309; omega))
  have hS : ∀ j : Int, s' 312 j = s1 312 j := fun j => f 312 j (by first | exact not_false | (unfold R_X12_pages_309; omega))
  have hk : ∀ a b : Int, y_KK a b → s' a b = s1 a b := fun a b q => by
    unfold y_KK at q
    exact f a b (by first | exact not_false | (unfold R_X12_pages_309; omega))
  exact ⟨y, rfl, lc.nm h sc c ⟨hA, hD, hB, hK⟩ hm hk, hm3, hS, kn, yn⟩
theorem L_page {fu : Nat} (hfu : 8589934592 ≤ fu) {s : z_M} (h : y_LX s) (t6 : y_I6 s) (t7 : y_J7 s) {n8 : Int} (t8 : y_J8 n8 s) (hn : n8 ≤ 4000) (p1 : Int) (p2 : Int) (p3 : Int) (b1 : -2147483648 ≤ p1 ∧ p1 ≤ 2147483647) (b2 : -2147483648 ≤ p2 ∧ p2 ≤ 2147483647) (b3 : -2147483648 ≤ p3 ∧ p3 ≤ 2147483647) : z_T (fL_page fu s 1 p1 p2 p3 7658) (fun v s' => ∃ x, v = vI x ∧ (y_LC s s' ∧ y_SC s s') ∧ (∀ j : Int, s' 3 j = s 3 j) ∧ y_Y4 s' ∧ y_K5 s s') := by
  refine T_of (fL_page.eq_1 ..) ?_
  refine T_if1 (by decide +kernel) ?_
  refine T_cI (T_mono (T_and (sf_X11_page_1Y hfu s h.1 p1 p2 p3 b1 b2 b3 h.2.1 t7.2.2.2) (e_cpage hfu h.1 h.2.1 t7.2.2.2 t8.1 t8.2.1 (by have := t8.2.2; omega) t7.r8 (fun sr rf => h.ok7 t6 t7 rf) b2.2)) (fun v s' hq => ?_))
  obtain ⟨hq, k5, g⟩ := hq
  obtain ⟨c, f, hv, hy, hq⟩ := hq
  have cf : (∀ a b : Int, 309 ≤ a → a ≤ 7657 → s' a b = s a b) := fun a b q _ => f a b (by first | exact not_false | (unfold R_X11_page_1; omega))
  have lc : y_LC s s' := ⟨c, hv, h.2.2.1.fr h.1 cf, h.2.2.2.1.keep cf, cf⟩
  have sc : y_SC s s' := fun a b q => f a b (by unfold y_SK0 at q; first | exact not_false | (unfold R_X11_page_1; omega))
  have h3 : ∀ j : Int, s' 3 j = s 3 j := fun j => f 3 j (by first | exact not_false | (unfold R_X11_page_1; omega))
  rcases hq with ⟨x, rfl, q1, q2⟩ | rfl
  · refine T_vcI ?_
    refine T_if1 (by decide +kernel) ?_
    refine T_up ?_
    exact T_ret ⟨_, rfl, ⟨lc.out (by omega), sc.out⟩, fun j => (z_up_k (by decide)).trans (h3 j), hy.cls (fun a b q => z_up_k (by omega)), k5.out⟩
  · refine T_v1I ?_
    exact T_ret ⟨_, rfl, ⟨lc, sc⟩, h3, hy, k5⟩
theorem M_page {fu : Nat} (hfu : 8589934592 ≤ fu) {s s1 : z_M} (h : y_LX s) (t6 : y_I6 s) (t7 : y_J7 s) (lc : y_LC s s1) (km : y_KM s1) (ym : y_YM s1) (p1 : Int) (p2 : Int) (p3 : Int) (b1 : -2147483648 ≤ p1 ∧ p1 ≤ 2147483647) (b2 : -2147483648 ≤ p2 ∧ p2 ≤ 2147483647) (b3 : -2147483648 ≤ p3 ∧ p3 ≤ 2147483647) (sc : y_SC s s1) : z_T (fX12_page fu s1 309 p1 p2 p3) (fun v s' => ∃ y, v = vI y ∧ (y_LX s') ∧ (∀ a b : Int, a ≤ 308 ∨ a = 7658 ∨ a = 313 ∨ a = 314 → s' a b = s1 a b) ∧ (∀ j : Int, s' 312 j = s1 312 j) ∧ y_KM s' ∧ y_YM s') := by
  refine T_mono (T_and (T_and (sf_X12_page_309 hfu s1 lc.1 p1 p2 p3 b1 b2 b3 lc.2.2.1.1 lc.2.2.1.2.1 lc.2.2.1.2.2.1 lc.2.2.1.2.2.2) (T_mono (sf_X12_page_309K hfu s1 lc.1 p1 p2 p3 b1 b2 b3 lc.2.2.1.1 lc.2.2.1.2.1 lc.2.2.1.2.2.1 lc.2.2.1.2.2.2 km) (fun v w h9 => (h9.2.2.2.2.2.2.1 : y_KM w)))) (T_mono (sf_X12_page_309Y hfu s1 lc.1 p1 p2 p3 b1 b2 b3 lc.2.2.1.1 lc.2.2.1.2.1 lc.2.2.1.2.2.1 lc.2.2.1.2.2.2 km ym) (fun v w h9 => (h9.2.2.2.2.2.2.2.1 : y_YM w)))) (fun v s' hq => ?_)
  obtain ⟨hq, yn⟩ := hq
  obtain ⟨hq, kn⟩ := hq
  obtain ⟨c, f, hA, hD, hB, hK, y, rfl, q1, q2⟩ := hq
  have hm : ∀ a b : Int, a ≤ 308 ∨ a = 7658 → s' a b = s1 a b := fun a b q => f a b (by first | exact not_false | (unfold R_X12_page_309; omega))
  have hm3 : ∀ a b : Int, a ≤ 308 ∨ a = 7658 ∨ a = 313 ∨ a = 314 → s' a b = s1 a b := fun a b q => f a b (by first | exact not_false | (unfold R_X12_page_309; omega))
  have hS : ∀ j : Int, s' 312 j = s1 312 j := fun j => f 312 j (by first | exact not_false | (unfold R_X12_page_309; omega))
  have hk : ∀ a b : Int, y_KK a b → s' a b = s1 a b := fun a b q => by
    unfold y_KK at q
    exact f a b (by first | exact not_false | (unfold R_X12_page_309; omega))
  exact ⟨y, rfl, lc.nm h sc c ⟨hA, hD, hB, hK⟩ hm hk, hm3, hS, kn, yn⟩
theorem L_narrow {fu : Nat} (hfu : 8589934592 ≤ fu) {s : z_M} (h : y_LX s) (t6 : y_I6 s) (t7 : y_J7 s) {n8 : Int} (t8 : y_J8 n8 s) (hn : n8 ≤ 4000) (p1 : Int) (b1 : -2147483648 ≤ p1 ∧ p1 ≤ 2147483647) : z_T (fL_narrow fu s 1 p1 7658) (fun v s' => ∃ x, v = vI x ∧ (y_LC s s' ∧ y_SC s s' ∧ ∃ v0, y_QRL s v0 (1 ≤ p1 ∧ p1 ≤ 200) (fun sr x => ∃ ss, y_SDd sr ss ∧ y_nrw (fun v => y_pgc (y_pge (y_Tc ss) (ss 240 6) v) (ss 240 6) 0) p1 x) ∧ y_VX 0 1 s' v0 x) ∧ (∀ j : Int, s' 3 j = s 3 j) ∧ y_Y4 s' ∧ y_K5 s s') := by
  refine T_of (fL_narrow.eq_1 ..) ?_
  refine T_if1 (by decide +kernel) ?_
  refine T_cI (T_mono (T_and (sf_X11_narrow_1Y hfu s h.1 p1 b1 h.2.1 t7.2.2.2) (e_cnarrow hfu h.1 h.2.1 t7.2.2.2 t8.1 t8.2.1 (by have := t8.2.2; omega) t7.r8 (fun sr rf => h.ok7 t6 t7 rf))) (fun v s' hq => ?_))
  obtain ⟨hq, k5, g⟩ := hq
  obtain ⟨c, f, hv, hy, hq⟩ := hq
  have cf : (∀ a b : Int, 309 ≤ a → a ≤ 7657 → s' a b = s a b) := fun a b q _ => f a b (by first | exact not_false | (unfold R_X11_narrow_1; omega))
  have lc : y_LC s s' := ⟨c, hv, h.2.2.1.fr h.1 cf, h.2.2.2.1.keep cf, cf⟩
  have sc : y_SC s s' := fun a b q => f a b (by unfold y_SK0 at q; first | exact not_false | (unfold R_X11_narrow_1; omega))
  have h3 : ∀ j : Int, s' 3 j = s 3 j := fun j => f 3 j (by first | exact not_false | (unfold R_X11_narrow_1; omega))
  rcases hq with ⟨x, rfl, q1, q2⟩ | rfl
  · refine T_vcI ?_
    refine T_if1 (by decide +kernel) ?_
    refine T_up ?_
    exact T_ret ⟨_, rfl, ⟨lc.out (by omega), sc.out, _, g, Or.inr (Or.inr ⟨_, rfl, rfl, z_up_s⟩)⟩, fun j => (z_up_k (by decide)).trans (h3 j), hy.cls (fun a b q => z_up_k (by omega)), k5.out⟩
  · refine T_v1I ?_
    exact T_ret ⟨_, rfl, ⟨lc, sc, _, g, Or.inr (Or.inl ⟨rfl, rfl⟩)⟩, h3, hy, k5⟩
theorem M_narrow {fu : Nat} (hfu : 8589934592 ≤ fu) {s s1 : z_M} (h : y_LX s) (t6 : y_I6 s) (t7 : y_J7 s) (lc : y_LC s s1) (km : y_KM s1) (ym : y_YM s1) (p1 : Int) (b1 : -2147483648 ≤ p1 ∧ p1 ≤ 2147483647) (sc : y_SC s s1) : z_T (fX12_narrow fu s1 309 p1) (fun v s' => ∃ y, v = vI y ∧ (y_LX s' ∧ y_ARL s1 s' (1 ≤ p1 ∧ p1 ≤ 200) y (fun sl x => y_nrw (fun v => y_pgc (y_pge (y_Tm sl) (sl 309 44) v) (sl 309 44) 0) p1 x)) ∧ (∀ a b : Int, a ≤ 308 ∨ a = 7658 ∨ a = 313 ∨ a = 314 → s' a b = s1 a b) ∧ (∀ j : Int, s' 312 j = s1 312 j) ∧ y_KM s' ∧ y_YM s') := by
  refine T_mono (T_and (T_and (T_and (sf_X12_narrow_309 hfu s1 lc.1 p1 b1 lc.2.2.1.1 lc.2.2.1.2.1 lc.2.2.1.2.2.1 lc.2.2.1.2.2.2) (em_narrow hfu (h.gy hfu t6 t7 lc km ym) (h.mo lc) lc.2.2.2.1 (y_LX.g8 t6 t7 lc).1 (y_LX.g8 t6 t7 lc).2)) (T_mono (sf_X12_narrow_309K hfu s1 lc.1 p1 b1 lc.2.2.1.1 lc.2.2.1.2.1 lc.2.2.1.2.2.1 lc.2.2.1.2.2.2 km) (fun v w h9 => (h9.2.2.2.2.2.2.1 : y_KM w)))) (T_mono (sf_X12_narrow_309Y hfu s1 lc.1 p1 b1 lc.2.2.1.1 lc.2.2.1.2.1 lc.2.2.1.2.2.1 lc.2.2.1.2.2.2 km ym) (fun v w h9 => (h9.2.2.2.2.2.2.2.1 : y_YM w)))) (fun v s' hq => ?_)
  obtain ⟨hq, yn⟩ := hq
  obtain ⟨hq, kn⟩ := hq
  obtain ⟨⟨c, f, hA, hD, hB, hK, y, rfl, q1, q2⟩, g⟩ := hq
  have hm : ∀ a b : Int, a ≤ 308 ∨ a = 7658 → s' a b = s1 a b := fun a b q => f a b (by first | exact not_false | (unfold R_X12_narrow_309; omega))
  have hm3 : ∀ a b : Int, a ≤ 308 ∨ a = 7658 ∨ a = 313 ∨ a = 314 → s' a b = s1 a b := fun a b q => f a b (by first | exact not_false | (unfold R_X12_narrow_309; omega))
  have hS : ∀ j : Int, s' 312 j = s1 312 j := fun j => f 312 j (by first | exact not_false | (unfold R_X12_narrow_309; omega))
  have hk : ∀ a b : Int, y_KK a b → s' a b = s1 a b := fun a b q => by
    unfold y_KK at q
    exact f a b (by first | exact not_false | (unfold R_X12_narrow_309; omega))
  obtain ⟨y2, e2, g⟩ := g
  have e3 : y = y2 := congrArg Prod.snd e2
  subst e3
  exact ⟨y, rfl, ⟨lc.nm h sc c ⟨hA, hD, hB, hK⟩ hm hk, g⟩, hm3, hS, kn, yn⟩
theorem L_status {fu : Nat} (hfu : 8589934592 ≤ fu) {s : z_M} (h : y_LX s) (t6 : y_I6 s) (t7 : y_J7 s) {n8 : Int} (t8 : y_J8 n8 s) (hn : n8 ≤ 4000) (p1 : Int) (b1 : -2147483648 ≤ p1 ∧ p1 ≤ 2147483647) : z_T (fX11_status fu s 1 p1) (fun v s' => ∃ x, v = vI x ∧ (y_LC s s' ∧ y_SC s s') ∧ (∀ j : Int, s' 3 j = s 3 j) ∧ y_Y4 s' ∧ y_K5 s s') := by
  refine T_mono (T_and (sf_X11_status_1Y hfu s h.1 p1 b1 h.2.1 t7.2.2.2) (T_mono (sf_X11_status_1Z hfu s h.1 p1 b1 h.2.1 t8.1) (fun v w h9 => (by first | exact h9.2.2.2.1 | exact h9.2.2.2.2.1 | exact h9.2.2.2.2.2.1 : y_Y5 w)))) (fun v s' hq => ?_)
  obtain ⟨hq, hz⟩ := hq
  obtain ⟨c, f, hv, hy, x, rfl, q1, q2⟩ := hq
  have cf : (∀ a b : Int, 309 ≤ a → a ≤ 7657 → s' a b = s a b) := fun a b q _ => f a b (by first | exact not_false | (unfold R_X11_status_1; omega))
  have lc : y_LC s s' := ⟨c, hv, h.2.2.1.fr h.1 cf, h.2.2.2.1.keep cf, cf⟩
  have k5 : y_K5 s s' := ⟨hz, t8.2.1.fr (fun a b p => f a b (by first | exact not_false | (unfold R_X11_status_1; omega))), by rw [f 296 9 (by first | exact not_false | (unfold R_X11_status_1; omega))]; omega⟩
  have sc : y_SC s s' := fun a b q => f a b (by unfold y_SK0 at q; first | exact not_false | (unfold R_X11_status_1; omega))
  have h3 : ∀ j : Int, s' 3 j = s 3 j := fun j => f 3 j (by first | exact not_false | (unfold R_X11_status_1; omega))
  exact ⟨x, rfl, ⟨lc, sc⟩, h3, hy, k5⟩
theorem M_status {fu : Nat} (hfu : 8589934592 ≤ fu) {s s1 : z_M} (h : y_LX s) (t6 : y_I6 s) (t7 : y_J7 s) (lc : y_LC s s1) (km : y_KM s1) (ym : y_YM s1) (p1 : Int) (b1 : -2147483648 ≤ p1 ∧ p1 ≤ 2147483647) (sc : y_SC s s1) : z_T (fX12_status fu s1 309 p1) (fun v s' => ∃ y, v = vI y ∧ (y_LX s') ∧ (∀ a b : Int, a ≤ 308 ∨ a = 7658 ∨ a = 313 ∨ a = 314 → s' a b = s1 a b) ∧ (∀ j : Int, s' 312 j = s1 312 j) ∧ y_KM s' ∧ y_YM s') := by
  refine T_mono (T_and (sf_X12_status_309 hfu s1 lc.1 p1 b1 lc.2.2.1.1 lc.2.2.1.2.1 lc.2.2.1.2.2.1 lc.2.2.1.2.2.2) (T_mono (sf_X12_status_309Y hfu s1 lc.1 p1 b1 lc.2.2.1.1 lc.2.2.1.2.1 lc.2.2.1.2.2.1 lc.2.2.1.2.2.2 ym) (fun v w h9 => (h9.2.2.2.2.2.2.1 : y_YM w)))) (fun v s' hq => ?_)
  obtain ⟨hq, yn⟩ := hq
  obtain ⟨c, f, hA, hD, hB, hK, y, rfl, q1, q2⟩ := hq
  have hm : ∀ a b : Int, a ≤ 308 ∨ a = 7658 → s' a b = s1 a b := fun a b q => f a b (by first | exact not_false | (unfold R_X12_status_309; omega))
  have hm3 : ∀ a b : Int, a ≤ 308 ∨ a = 7658 ∨ a = 313 ∨ a = 314 → s' a b = s1 a b := fun a b q => f a b (by first | exact not_false | (unfold R_X12_status_309; omega))
  have hS : ∀ j : Int, s' 312 j = s1 312 j := fun j => f 312 j (by first | exact not_false | (unfold R_X12_status_309; omega))
  have kn : y_KM s' := km.fr (f 309 20 (by first | exact not_false | (unfold R_X12_status_309; omega))) (f 309 36 (by first | exact not_false | (unfold R_X12_status_309; omega))) (f 309 38 (by first | exact not_false | (unfold R_X12_status_309; omega))) (f 309 39 (by first | exact not_false | (unfold R_X12_status_309; omega))) (fun b => f 312 b (by first | exact not_false | (unfold R_X12_status_309; omega))) (fun b => f 331 b (by first | exact not_false | (unfold R_X12_status_309; omega))) (fun b => f 346 b (by first | exact not_false | (unfold R_X12_status_309; omega))) (fun b => f 361 b (by first | exact not_false | (unfold R_X12_status_309; omega))) (fun b => f 391 b (by first | exact not_false | (unfold R_X12_status_309; omega))) (fun a b q => f a b (by first | exact not_false | (unfold R_X12_status_309; omega))) (fun a b q => f a b (by first | exact not_false | (unfold R_X12_status_309; omega))) (fun a b q => f a b (by first | exact not_false | (unfold R_X12_status_309; omega)))
  have hk : ∀ a b : Int, y_KK a b → s' a b = s1 a b := fun a b q => by
    unfold y_KK at q
    exact f a b (by first | exact not_false | (unfold R_X12_status_309; omega))
  exact ⟨y, rfl, lc.nm h sc c ⟨hA, hD, hB, hK⟩ hm hk, hm3, hS, kn, yn⟩
theorem k_188 {fu L : Nat} (hfu : 8589934592 ≤ fu) (hL : L ≤ 4000) {xs : Nat → Int32} {s : z_M} {a4 : Int} {r : z_M → Int → z_O} {k : z_M → z_O} {P : z_V → z_M → Prop} (h : y_LX s) (t6 : y_I6 s) (t7 : y_J7 s) (t8 : y_J8 a4 s) (h4 : 0 ≤ a4 ∧ a4 + 6 ≤ L) (hr : ∀ s' v, y_LX s' → y_I6 s' → y_J7 s' → y_J8 (a4 + 6) s' → v = a4 + 6 → z_T (r s' v) P) : z_T (fL_law_J188 fu L xs s 1 309 7658 a4 r k) P := by
  refine T_of (fL_law_J188.eq_1 ..) ?_
  refine T_leq (fun i1 f1 => ?_)
  have g1 := z_wx f1 (by omega)
  refine T_if1 (by omega) ?_
  refine T_leq (fun p1 e1 => ?_)
  have b1 : -2147483648 ≤ p1 ∧ p1 ≤ 2147483647 := by rw [← e1]; exact z_i32b _
  refine T_leq (fun i2 f2 => ?_)
  have g2 := z_wx f2 (by omega)
  refine T_if1 (by omega) ?_
  refine T_leq (fun p2 e2 => ?_)
  have b2 : -2147483648 ≤ p2 ∧ p2 ≤ 2147483647 := by rw [← e2]; exact z_i32b _
  refine T_leq (fun i3 f3 => ?_)
  have g3 := z_wx f3 (by omega)
  refine T_if1 (by omega) ?_
  refine T_leq (fun p3 e3 => ?_)
  have b3 : -2147483648 ≤ p3 ∧ p3 ≤ 2147483647 := by rw [← e3]; exact z_i32b _
  refine T_leq (fun i4 f4 => ?_)
  have g4 := z_wx f4 (by omega)
  refine T_if1 (by omega) ?_
  refine T_leq (fun p4 e4 => ?_)
  have b4 : -2147483648 ≤ p4 ∧ p4 ≤ 2147483647 := by rw [← e4]; exact z_i32b _
  refine T_leq (fun i5 f5 => ?_)
  have g5 := z_wx f5 (by omega)
  refine T_if1 (by omega) ?_
  refine T_leq (fun p5 e5 => ?_)
  have b5 : -2147483648 ≤ p5 ∧ p5 ≤ 2147483647 := by rw [← e5]; exact z_i32b _
  refine T_if1 (by decide +kernel) ?_
  refine T_useI (L_feed hfu h t6 t7 t8 (by omega) p1 p2 p3 p4 p5 b1 b2 b3 b4 b5) (fun v s1 hq => ?_)
  obtain ⟨x, rfl, ⟨lc, sc⟩, c3, y4, k5⟩ := hq
  refine T_vI ?_
  refine T_leq (fun j1 f => ?_)
  have q9 : i1 = j1 := f1.symm.trans f
  subst q9
  refine T_if1 (by omega) ?_
  refine T_leq (fun p9 e => ?_)
  have q9 : p1 = p9 := e1.symm.trans e
  subst q9
  clear f e
  refine T_leq (fun j2 f => ?_)
  have q9 : i2 = j2 := f2.symm.trans f
  subst q9
  refine T_if1 (by omega) ?_
  refine T_leq (fun p9 e => ?_)
  have q9 : p2 = p9 := e2.symm.trans e
  subst q9
  clear f e
  refine T_leq (fun j3 f => ?_)
  have q9 : i3 = j3 := f3.symm.trans f
  subst q9
  refine T_if1 (by omega) ?_
  refine T_leq (fun p9 e => ?_)
  have q9 : p3 = p9 := e3.symm.trans e
  subst q9
  clear f e
  refine T_leq (fun j4 f => ?_)
  have q9 : i4 = j4 := f4.symm.trans f
  subst q9
  refine T_if1 (by omega) ?_
  refine T_leq (fun p9 e => ?_)
  have q9 : p4 = p9 := e4.symm.trans e
  subst q9
  clear f e
  refine T_leq (fun j5 f => ?_)
  have q9 : i5 = j5 := f5.symm.trans f
  subst q9
  refine T_if1 (by omega) ?_
  refine T_leq (fun p9 e => ?_)
  have q9 : p5 = p9 := e5.symm.trans e
  subst q9
  clear f e
  refine T_if1 (by decide +kernel) ?_
  refine T_useI (M_feed hfu h t6 t7 lc (t7.2.1.cls lc.2.2.2.2) (t7.2.2.1.cls lc.2.2.2.2) p1 p2 p3 p4 p5 b1 b2 b3 b4 b5 sc) (fun v s2 hq => ?_)
  obtain ⟨y, rfl, hq, m3, m12, km2, ym2⟩ := hq
  refine T_vI ?_
  have h2 := hq.1
  have n6 := t6.step c3 lc.2.2.2.2 m3 m12
  have n7 : y_J7 s2 := ⟨t7.1.step c3 m3, km2, ym2, y4.cls (fun a b q => m3 a b (Or.inl q))⟩
  have n8 : y_J8 (a4 + 6) s2 := t8.step k5 m3
  refine T_of (fL_law_J1338.eq_1 ..) ?_
  refine T_leq (fun z e => ?_)
  exact hr _ _ h2 n6 n7 n8 (z_wx e (by omega))
theorem k_261 {fu L : Nat} (hfu : 8589934592 ≤ fu) (hL : L ≤ 4000) {xs : Nat → Int32} {s : z_M} {a4 : Int} {r : z_M → Int → z_O} {k : z_M → z_O} {P : z_V → z_M → Prop} (h : y_LX s) (t6 : y_I6 s) (t7 : y_J7 s) (t8 : y_J8 a4 s) (h4 : 0 ≤ a4 ∧ a4 + 6 ≤ L) (hr : ∀ s' v, y_LX s' → y_I6 s' → y_J7 s' → y_J8 (a4 + 6) s' → v = a4 + 6 → z_T (r s' v) P) : z_T (fL_law_J261 fu L xs s 1 309 7658 a4 r k) P := by
  refine T_of (fL_law_J261.eq_1 ..) ?_
  refine T_leq (fun i1 f1 => ?_)
  have g1 := z_wx f1 (by omega)
  refine T_if1 (by omega) ?_
  refine T_leq (fun p1 e1 => ?_)
  have b1 : -2147483648 ≤ p1 ∧ p1 ≤ 2147483647 := by rw [← e1]; exact z_i32b _
  refine T_useI (L_text hfu h t6 t7 t8 (by omega) p1 b1) (fun v s1 hq => ?_)
  obtain ⟨x, rfl, ⟨lc, sc⟩, c3, y4, k5⟩ := hq
  refine T_vI ?_
  refine T_leq (fun j1 f => ?_)
  have q9 : i1 = j1 := f1.symm.trans f
  subst q9
  refine T_if1 (by omega) ?_
  refine T_leq (fun p9 e => ?_)
  have q9 : p1 = p9 := e1.symm.trans e
  subst q9
  clear f e
  refine T_if1 (by decide +kernel) ?_
  refine T_useI (M_text hfu h t6 t7 lc (t7.2.1.cls lc.2.2.2.2) (t7.2.2.1.cls lc.2.2.2.2) p1 b1 sc) (fun v s2 hq => ?_)
  obtain ⟨y, rfl, hq, m3, m12, km2, ym2⟩ := hq
  refine T_vI ?_
  have h2 := hq.1
  have n6 := t6.step c3 lc.2.2.2.2 m3 m12
  have n7 : y_J7 s2 := ⟨t7.1.step c3 m3, km2, ym2, y4.cls (fun a b q => m3 a b (Or.inl q))⟩
  have n8 : y_J8 (a4 + 6) s2 := t8.step k5 m3
  refine T_of (fL_law_J1338.eq_1 ..) ?_
  refine T_leq (fun z e => ?_)
  exact hr _ _ h2 n6 n7 n8 (z_wx e (by omega))
theorem k_289 {fu L : Nat} (hfu : 8589934592 ≤ fu) (hL : L ≤ 4000) {xs : Nat → Int32} {s : z_M} {a4 : Int} {r : z_M → Int → z_O} {k : z_M → z_O} {P : z_V → z_M → Prop} (h : y_LX s) (t6 : y_I6 s) (t7 : y_J7 s) (t8 : y_J8 a4 s) (h4 : 0 ≤ a4 ∧ a4 + 6 ≤ L) (hr : ∀ s' v, y_LX s' → y_I6 s' → y_J7 s' → y_J8 (a4 + 6) s' → v = a4 + 6 → z_T (r s' v) P) : z_T (fL_law_J289 fu L xs s 1 309 7658 a4 r k) P := by
  refine T_of (fL_law_J289.eq_1 ..) ?_
  refine T_leq (fun i1 f1 => ?_)
  have g1 := z_wx f1 (by omega)
  refine T_if1 (by omega) ?_
  refine T_leq (fun p1 e1 => ?_)
  have b1 : -2147483648 ≤ p1 ∧ p1 ≤ 2147483647 := by rw [← e1]; exact z_i32b _
  refine T_useI (L_more hfu h t6 t7 t8 (by omega) p1 b1) (fun v s1 hq => ?_)
  obtain ⟨x, rfl, ⟨lc, sc⟩, c3, y4, k5⟩ := hq
  refine T_vI ?_
  refine T_leq (fun j1 f => ?_)
  have q9 : i1 = j1 := f1.symm.trans f
  subst q9
  refine T_if1 (by omega) ?_
  refine T_leq (fun p9 e => ?_)
  have q9 : p1 = p9 := e1.symm.trans e
  subst q9
  clear f e
  refine T_if1 (by decide +kernel) ?_
  refine T_useI (M_more hfu h t6 t7 lc (t7.2.1.cls lc.2.2.2.2) (t7.2.2.1.cls lc.2.2.2.2) p1 b1 sc) (fun v s2 hq => ?_)
  obtain ⟨y, rfl, hq, m3, m12, km2, ym2⟩ := hq
  refine T_vI ?_
  have h2 := hq.1
  have n6 := t6.step c3 lc.2.2.2.2 m3 m12
  have n7 : y_J7 s2 := ⟨t7.1.step c3 m3, km2, ym2, y4.cls (fun a b q => m3 a b (Or.inl q))⟩
  have n8 : y_J8 (a4 + 6) s2 := t8.step k5 m3
  refine T_of (fL_law_J1338.eq_1 ..) ?_
  refine T_leq (fun z e => ?_)
  exact hr _ _ h2 n6 n7 n8 (z_wx e (by omega))
theorem k_317 {fu L : Nat} (hfu : 8589934592 ≤ fu) (hL : L ≤ 4000) {xs : Nat → Int32} {s : z_M} {a4 : Int} {r : z_M → Int → z_O} {k : z_M → z_O} {P : z_V → z_M → Prop} (h : y_LX s) (t6 : y_I6 s) (t7 : y_J7 s) (t8 : y_J8 a4 s) (h4 : 0 ≤ a4 ∧ a4 + 6 ≤ L) (hr : ∀ s' v, y_LX s' → y_I6 s' → y_J7 s' → y_J8 (a4 + 6) s' → v = a4 + 6 → z_T (r s' v) P) : z_T (fL_law_J317 fu L xs s 1 309 7658 a4 r k) P := by
  refine T_of (fL_law_J317.eq_1 ..) ?_
  refine T_if1 (by decide +kernel) ?_
  refine T_useI (L_fault hfu h t6 t7 t8 (by omega)) (fun v s1 hq => ?_)
  obtain ⟨x, rfl, ⟨lc, sc⟩, c3, y4, k5⟩ := hq
  refine T_vI ?_
  refine T_if1 (by decide +kernel) ?_
  refine T_useI (M_fault hfu h t6 t7 lc (t7.2.1.cls lc.2.2.2.2) (t7.2.2.1.cls lc.2.2.2.2) sc) (fun v s2 hq => ?_)
  obtain ⟨y, rfl, hq, m3, m12, km2, ym2⟩ := hq
  refine T_vI ?_
  have h2 := hq.1
  have n6 := t6.step c3 lc.2.2.2.2 m3 m12
  have n7 : y_J7 s2 := ⟨t7.1.step c3 m3, km2, ym2, y4.cls (fun a b q => m3 a b (Or.inl q))⟩
  have n8 : y_J8 (a4 + 6) s2 := t8.step k5 m3
  refine T_of (fL_law_J1338.eq_1 ..) ?_
  refine T_leq (fun z e => ?_)
  exact hr _ _ h2 n6 n7 n8 (z_wx e (by omega))
theorem k_330 {fu L : Nat} (hfu : 8589934592 ≤ fu) (hL : L ≤ 4000) {xs : Nat → Int32} {s : z_M} {a4 : Int} {r : z_M → Int → z_O} {k : z_M → z_O} {P : z_V → z_M → Prop} (h : y_LX s) (t6 : y_I6 s) (t7 : y_J7 s) (t8 : y_J8 a4 s) (h4 : 0 ≤ a4 ∧ a4 + 6 ≤ L) (hr : ∀ s' v, y_LX s' → y_I6 s' → y_J7 s' → y_J8 (a4 + 6) s' → v = a4 + 6 → z_T (r s' v) P) : z_T (fL_law_J330 fu L xs s 1 309 7658 a4 r k) P := by
  refine T_of (fL_law_J330.eq_1 ..) ?_
  refine T_leq (fun i1 f1 => ?_)
  have g1 := z_wx f1 (by omega)
  refine T_if1 (by omega) ?_
  refine T_leq (fun p1 e1 => ?_)
  have b1 : -2147483648 ≤ p1 ∧ p1 ≤ 2147483647 := by rw [← e1]; exact z_i32b _
  refine T_leq (fun i2 f2 => ?_)
  have g2 := z_wx f2 (by omega)
  refine T_if1 (by omega) ?_
  refine T_leq (fun p2 e2 => ?_)
  have b2 : -2147483648 ≤ p2 ∧ p2 ≤ 2147483647 := by rw [← e2]; exact z_i32b _
  refine T_useI (L_set hfu h t6 t7 t8 (by omega) p1 p2 b1 b2) (fun v s1 hq => ?_)
  obtain ⟨x, rfl, ⟨lc, sc⟩, c3, y4, k5⟩ := hq
  refine T_vI ?_
  refine T_leq (fun j1 f => ?_)
  have q9 : i1 = j1 := f1.symm.trans f
  subst q9
  refine T_if1 (by omega) ?_
  refine T_leq (fun p9 e => ?_)
  have q9 : p1 = p9 := e1.symm.trans e
  subst q9
  clear f e
  refine T_leq (fun j2 f => ?_)
  have q9 : i2 = j2 := f2.symm.trans f
  subst q9
  refine T_if1 (by omega) ?_
  refine T_leq (fun p9 e => ?_)
  have q9 : p2 = p9 := e2.symm.trans e
  subst q9
  clear f e
  refine T_if1 (by decide +kernel) ?_
  refine T_useI (M_set hfu h t6 t7 lc (t7.2.1.cls lc.2.2.2.2) (t7.2.2.1.cls lc.2.2.2.2) p1 p2 b1 b2 sc) (fun v s2 hq => ?_)
  obtain ⟨y, rfl, hq, m3, m12, km2, ym2⟩ := hq
  refine T_vI ?_
  have h2 := hq
  obtain ⟨n6, g7, g8⟩ := t6.set lc.2.2.2.2 c3 m3 m12
  have n7 : y_J7 s2 := ⟨t7.1.set c3 m3, km2, ym2, y4.cls (fun a b q => m3 a b (Or.inl q))⟩
  have n8 : y_J8 (a4 + 6) s2 := t8.step k5 m3
  refine T_of (fL_law_J1338.eq_1 ..) ?_
  refine T_leq (fun z e => ?_)
  exact hr _ _ h2 n6 n7 n8 (z_wx e (by omega))
theorem k_370 {fu L : Nat} (hfu : 8589934592 ≤ fu) (hL : L ≤ 4000) {xs : Nat → Int32} {s : z_M} {a4 : Int} {r : z_M → Int → z_O} {k : z_M → z_O} {P : z_V → z_M → Prop} (h : y_LX s) (t6 : y_I6 s) (t7 : y_J7 s) (t8 : y_J8 a4 s) (h4 : 0 ≤ a4 ∧ a4 + 6 ≤ L) (hr : ∀ s' v, y_LX s' → y_I6 s' → y_J7 s' → y_J8 (a4 + 6) s' → v = a4 + 6 → z_T (r s' v) P) : z_T (fL_law_J370 fu L xs s 1 309 7658 a4 r k) P := by
  refine T_of (fL_law_J370.eq_1 ..) ?_
  refine T_leq (fun i1 f1 => ?_)
  have g1 := z_wx f1 (by omega)
  refine T_if1 (by omega) ?_
  refine T_leq (fun p1 e1 => ?_)
  have b1 : -2147483648 ≤ p1 ∧ p1 ≤ 2147483647 := by rw [← e1]; exact z_i32b _
  refine T_leq (fun i2 f2 => ?_)
  have g2 := z_wx f2 (by omega)
  refine T_if1 (by omega) ?_
  refine T_leq (fun p2 e2 => ?_)
  have b2 : -2147483648 ≤ p2 ∧ p2 ≤ 2147483647 := by rw [← e2]; exact z_i32b _
  refine T_useI (L_cut hfu h t6 t7 t8 (by omega) p1 p2 b1 b2) (fun v s1 hq => ?_)
  obtain ⟨x, rfl, ⟨lc, sc⟩, c3, y4, k5⟩ := hq
  refine T_vI ?_
  refine T_leq (fun j1 f => ?_)
  have q9 : i1 = j1 := f1.symm.trans f
  subst q9
  refine T_if1 (by omega) ?_
  refine T_leq (fun p9 e => ?_)
  have q9 : p1 = p9 := e1.symm.trans e
  subst q9
  clear f e
  refine T_leq (fun j2 f => ?_)
  have q9 : i2 = j2 := f2.symm.trans f
  subst q9
  refine T_if1 (by omega) ?_
  refine T_leq (fun p9 e => ?_)
  have q9 : p2 = p9 := e2.symm.trans e
  subst q9
  clear f e
  refine T_if1 (by decide +kernel) ?_
  refine T_useI (M_cut hfu h t6 t7 lc (t7.2.1.cls lc.2.2.2.2) (t7.2.2.1.cls lc.2.2.2.2) p1 p2 b1 b2 sc) (fun v s2 hq => ?_)
  obtain ⟨y, rfl, hq, m3, m12, km2, ym2⟩ := hq
  refine T_vI ?_
  have h2 := hq.1
  have n6 := t6.step c3 lc.2.2.2.2 m3 m12
  have n7 : y_J7 s2 := ⟨t7.1.step c3 m3, km2, ym2, y4.cls (fun a b q => m3 a b (Or.inl q))⟩
  have n8 : y_J8 (a4 + 6) s2 := t8.step k5 m3
  refine T_of (fL_law_J1338.eq_1 ..) ?_
  refine T_leq (fun z e => ?_)
  exact hr _ _ h2 n6 n7 n8 (z_wx e (by omega))
theorem k_410 {fu L : Nat} (hfu : 8589934592 ≤ fu) (hL : L ≤ 4000) {xs : Nat → Int32} {s : z_M} {a4 : Int} {r : z_M → Int → z_O} {k : z_M → z_O} {P : z_V → z_M → Prop} (h : y_LX s) (t6 : y_I6 s) (t7 : y_J7 s) (t8 : y_J8 a4 s) (h4 : 0 ≤ a4 ∧ a4 + 6 ≤ L) (hr : ∀ s' v, y_LX s' → y_I6 s' → y_J7 s' → y_J8 (a4 + 6) s' → v = a4 + 6 → z_T (r s' v) P) : z_T (fL_law_J410 fu L xs s 1 309 7658 a4 r k) P := by
  refine T_of (fL_law_J410.eq_1 ..) ?_
  refine T_if1 (by decide +kernel) ?_
  refine T_useI (L_undo hfu h t6 t7 t8 (by omega)) (fun v s1 hq => ?_)
  obtain ⟨x, rfl, ⟨lc, sc⟩, c3, y4, k5⟩ := hq
  refine T_vI ?_
  refine T_if1 (by decide +kernel) ?_
  refine T_useI (M_undo hfu h t6 t7 lc (t7.2.1.cls lc.2.2.2.2) (t7.2.2.1.cls lc.2.2.2.2) sc) (fun v s2 hq => ?_)
  obtain ⟨y, rfl, hq, m3, m12, km2, ym2⟩ := hq
  refine T_vI ?_
  have h2 := hq.1
  have n6 := t6.step c3 lc.2.2.2.2 m3 m12
  have n7 : y_J7 s2 := ⟨t7.1.step c3 m3, km2, ym2, y4.cls (fun a b q => m3 a b (Or.inl q))⟩
  have n8 : y_J8 (a4 + 6) s2 := t8.step k5 m3
  refine T_of (fL_law_J1338.eq_1 ..) ?_
  refine T_leq (fun z e => ?_)
  exact hr _ _ h2 n6 n7 n8 (z_wx e (by omega))
theorem k_423 {fu L : Nat} (hfu : 8589934592 ≤ fu) (hL : L ≤ 4000) {xs : Nat → Int32} {s : z_M} {a4 : Int} {r : z_M → Int → z_O} {k : z_M → z_O} {P : z_V → z_M → Prop} (h : y_LX s) (t6 : y_I6 s) (t7 : y_J7 s) (t8 : y_J8 a4 s) (h4 : 0 ≤ a4 ∧ a4 + 6 ≤ L) (hr : ∀ s' v, y_LX s' → y_I6 s' → y_J7 s' → y_J8 (a4 + 6) s' → v = a4 + 6 → z_T (r s' v) P) : z_T (fL_law_J423 fu L xs s 1 309 7658 a4 r k) P := by
  refine T_of (fL_law_J423.eq_1 ..) ?_
  refine T_leq (fun i1 f1 => ?_)
  have g1 := z_wx f1 (by omega)
  refine T_if1 (by omega) ?_
  refine T_leq (fun p1 e1 => ?_)
  have b1 : -2147483648 ≤ p1 ∧ p1 ≤ 2147483647 := by rw [← e1]; exact z_i32b _
  refine T_useI (L_told hfu h t6 t7 t8 (by omega) p1 b1) (fun v s1 hq => ?_)
  obtain ⟨x, rfl, ⟨lc, sc⟩, c3, y4, k5⟩ := hq
  refine T_vI ?_
  refine T_leq (fun j1 f => ?_)
  have q9 : i1 = j1 := f1.symm.trans f
  subst q9
  refine T_if1 (by omega) ?_
  refine T_leq (fun p9 e => ?_)
  have q9 : p1 = p9 := e1.symm.trans e
  subst q9
  clear f e
  refine T_if1 (by decide +kernel) ?_
  refine T_useL (M_told hfu h t6 t7 lc (t7.2.1.cls lc.2.2.2.2) (t7.2.2.1.cls lc.2.2.2.2) p1 b1 sc) (fun v s2 hq => ?_)
  obtain ⟨y, rfl, hq, m3, m12, km2, ym2⟩ := hq
  refine T_vL ?_
  have h2 := hq
  have n6 := t6.step c3 lc.2.2.2.2 m3 m12
  have n7 : y_J7 s2 := ⟨t7.1.step c3 m3, km2, ym2, y4.cls (fun a b q => m3 a b (Or.inl q))⟩
  have n8 : y_J8 (a4 + 6) s2 := t8.step k5 m3
  refine T_of (fL_law_J1338.eq_1 ..) ?_
  refine T_leq (fun z e => ?_)
  exact hr _ _ h2 n6 n7 n8 (z_wx e (by omega))
theorem k_451 {fu L : Nat} (hfu : 8589934592 ≤ fu) (hL : L ≤ 4000) {xs : Nat → Int32} {s : z_M} {a4 : Int} {r : z_M → Int → z_O} {k : z_M → z_O} {P : z_V → z_M → Prop} (h : y_LX s) (t6 : y_I6 s) (t7 : y_J7 s) (t8 : y_J8 a4 s) (h4 : 0 ≤ a4 ∧ a4 + 6 ≤ L) (hr : ∀ s' v, y_LX s' → y_I6 s' → y_J7 s' → y_J8 (a4 + 6) s' → v = a4 + 6 → z_T (r s' v) P) : z_T (fL_law_J451 fu L xs s 1 309 7658 a4 r k) P := by
  refine T_of (fL_law_J451.eq_1 ..) ?_
  refine T_leq (fun i1 f1 => ?_)
  have g1 := z_wx f1 (by omega)
  refine T_if1 (by omega) ?_
  refine T_leq (fun p1 e1 => ?_)
  have b1 : -2147483648 ≤ p1 ∧ p1 ≤ 2147483647 := by rw [← e1]; exact z_i32b _
  refine T_leq (fun i2 f2 => ?_)
  have g2 := z_wx f2 (by omega)
  refine T_if1 (by omega) ?_
  refine T_leq (fun p2 e2 => ?_)
  have b2 : -2147483648 ≤ p2 ∧ p2 ≤ 2147483647 := by rw [← e2]; exact z_i32b _
  refine T_useI (L_unit hfu h t6 t7 t8 (by omega) p1 p2 b1 b2) (fun v s1 hq => ?_)
  obtain ⟨x, rfl, ⟨lc, sc⟩, c3, y4, k5⟩ := hq
  refine T_vI ?_
  refine T_leq (fun j1 f => ?_)
  have q9 : i1 = j1 := f1.symm.trans f
  subst q9
  refine T_if1 (by omega) ?_
  refine T_leq (fun p9 e => ?_)
  have q9 : p1 = p9 := e1.symm.trans e
  subst q9
  clear f e
  refine T_leq (fun j2 f => ?_)
  have q9 : i2 = j2 := f2.symm.trans f
  subst q9
  refine T_if1 (by omega) ?_
  refine T_leq (fun p9 e => ?_)
  have q9 : p2 = p9 := e2.symm.trans e
  subst q9
  clear f e
  refine T_if1 (by decide +kernel) ?_
  refine T_useI (M_unit hfu h t6 t7 lc (t7.2.1.cls lc.2.2.2.2) (t7.2.2.1.cls lc.2.2.2.2) p1 p2 b1 b2 sc) (fun v s2 hq => ?_)
  obtain ⟨y, rfl, hq, m3, m12, km2, ym2⟩ := hq
  refine T_vI ?_
  have h2 := hq
  have n6 := t6.step c3 lc.2.2.2.2 m3 m12
  have n7 : y_J7 s2 := ⟨t7.1.step c3 m3, km2, ym2, y4.cls (fun a b q => m3 a b (Or.inl q))⟩
  have n8 : y_J8 (a4 + 6) s2 := t8.step k5 m3
  refine T_of (fL_law_J1338.eq_1 ..) ?_
  refine T_leq (fun z e => ?_)
  exact hr _ _ h2 n6 n7 n8 (z_wx e (by omega))
theorem k_491 {fu L : Nat} (hfu : 8589934592 ≤ fu) (hL : L ≤ 4000) {xs : Nat → Int32} {s : z_M} {a4 : Int} {r : z_M → Int → z_O} {k : z_M → z_O} {P : z_V → z_M → Prop} (h : y_LX s) (t6 : y_I6 s) (t7 : y_J7 s) (t8 : y_J8 a4 s) (h4 : 0 ≤ a4 ∧ a4 + 6 ≤ L) (hr : ∀ s' v, y_LX s' → y_I6 s' → y_J7 s' → y_J8 (a4 + 6) s' → v = a4 + 6 → z_T (r s' v) P) : z_T (fL_law_J491 fu L xs s 1 309 7658 a4 r k) P := by
  refine T_of (fL_law_J491.eq_1 ..) ?_
  refine T_leq (fun i1 f1 => ?_)
  have g1 := z_wx f1 (by omega)
  refine T_if1 (by omega) ?_
  refine T_leq (fun p1 e1 => ?_)
  have b1 : -2147483648 ≤ p1 ∧ p1 ≤ 2147483647 := by rw [← e1]; exact z_i32b _
  refine T_leq (fun i2 f2 => ?_)
  have g2 := z_wx f2 (by omega)
  refine T_if1 (by omega) ?_
  refine T_leq (fun p2 e2 => ?_)
  have b2 : -2147483648 ≤ p2 ∧ p2 ≤ 2147483647 := by rw [← e2]; exact z_i32b _
  refine T_useI (L_sign hfu h t6 t7 t8 (by omega) p1 p2 b1 b2) (fun v s1 hq => ?_)
  obtain ⟨x, rfl, ⟨lc, sc⟩, c3, y4, k5⟩ := hq
  refine T_vI ?_
  refine T_leq (fun j1 f => ?_)
  have q9 : i1 = j1 := f1.symm.trans f
  subst q9
  refine T_if1 (by omega) ?_
  refine T_leq (fun p9 e => ?_)
  have q9 : p1 = p9 := e1.symm.trans e
  subst q9
  clear f e
  refine T_leq (fun j2 f => ?_)
  have q9 : i2 = j2 := f2.symm.trans f
  subst q9
  refine T_if1 (by omega) ?_
  refine T_leq (fun p9 e => ?_)
  have q9 : p2 = p9 := e2.symm.trans e
  subst q9
  clear f e
  refine T_if1 (by decide +kernel) ?_
  refine T_useI (M_sign hfu h t6 t7 lc (t7.2.1.cls lc.2.2.2.2) (t7.2.2.1.cls lc.2.2.2.2) p1 p2 b1 b2 sc) (fun v s2 hq => ?_)
  obtain ⟨y, rfl, hq, m3, m12, km2, ym2⟩ := hq
  refine T_vI ?_
  have h2 := hq
  have n6 := t6.step c3 lc.2.2.2.2 m3 m12
  have n7 : y_J7 s2 := ⟨t7.1.step c3 m3, km2, ym2, y4.cls (fun a b q => m3 a b (Or.inl q))⟩
  have n8 : y_J8 (a4 + 6) s2 := t8.step k5 m3
  refine T_of (fL_law_J1338.eq_1 ..) ?_
  refine T_leq (fun z e => ?_)
  exact hr _ _ h2 n6 n7 n8 (z_wx e (by omega))
theorem k_531 {fu L : Nat} (hfu : 8589934592 ≤ fu) (hL : L ≤ 4000) {xs : Nat → Int32} {s : z_M} {a4 : Int} {r : z_M → Int → z_O} {k : z_M → z_O} {P : z_V → z_M → Prop} (h : y_LX s) (t6 : y_I6 s) (t7 : y_J7 s) (t8 : y_J8 a4 s) (h4 : 0 ≤ a4 ∧ a4 + 6 ≤ L) (hr : ∀ s' v, y_LX s' → y_I6 s' → y_J7 s' → y_J8 (a4 + 6) s' → v = a4 + 6 → z_T (r s' v) P) : z_T (fL_law_J531 fu L xs s 1 309 7658 a4 r k) P := by
  refine T_of (fL_law_J531.eq_1 ..) ?_
  refine T_leq (fun i1 f1 => ?_)
  have g1 := z_wx f1 (by omega)
  refine T_if1 (by omega) ?_
  refine T_leq (fun p1 e1 => ?_)
  have b1 : -2147483648 ≤ p1 ∧ p1 ≤ 2147483647 := by rw [← e1]; exact z_i32b _
  refine T_leq (fun i2 f2 => ?_)
  have g2 := z_wx f2 (by omega)
  refine T_if1 (by omega) ?_
  refine T_leq (fun p2 e2 => ?_)
  have b2 : -2147483648 ≤ p2 ∧ p2 ≤ 2147483647 := by rw [← e2]; exact z_i32b _
  refine T_useI (L_line hfu h t6 t7 t8 (by omega) p1 p2 b1 b2) (fun v s1 hq => ?_)
  obtain ⟨x, rfl, ⟨lc, sc⟩, c3, y4, k5⟩ := hq
  refine T_vI ?_
  refine T_leq (fun j1 f => ?_)
  have q9 : i1 = j1 := f1.symm.trans f
  subst q9
  refine T_if1 (by omega) ?_
  refine T_leq (fun p9 e => ?_)
  have q9 : p1 = p9 := e1.symm.trans e
  subst q9
  clear f e
  refine T_leq (fun j2 f => ?_)
  have q9 : i2 = j2 := f2.symm.trans f
  subst q9
  refine T_if1 (by omega) ?_
  refine T_leq (fun p9 e => ?_)
  have q9 : p2 = p9 := e2.symm.trans e
  subst q9
  clear f e
  refine T_if1 (by decide +kernel) ?_
  refine T_useI (M_line hfu h t6 t7 lc (t7.2.1.cls lc.2.2.2.2) (t7.2.2.1.cls lc.2.2.2.2) p1 p2 b1 b2 sc) (fun v s2 hq => ?_)
  obtain ⟨y, rfl, hq, m3, m12, km2, ym2⟩ := hq
  refine T_vI ?_
  have h2 := hq
  have n6 := t6.step c3 lc.2.2.2.2 m3 m12
  have n7 : y_J7 s2 := ⟨t7.1.step c3 m3, km2, ym2, y4.cls (fun a b q => m3 a b (Or.inl q))⟩
  have n8 : y_J8 (a4 + 6) s2 := t8.step k5 m3
  refine T_of (fL_law_J1338.eq_1 ..) ?_
  refine T_leq (fun z e => ?_)
  exact hr _ _ h2 n6 n7 n8 (z_wx e (by omega))
theorem k_571 {fu L : Nat} (hfu : 8589934592 ≤ fu) (hL : L ≤ 4000) {xs : Nat → Int32} {s : z_M} {a4 : Int} {r : z_M → Int → z_O} {k : z_M → z_O} {P : z_V → z_M → Prop} (h : y_LX s) (t6 : y_I6 s) (t7 : y_J7 s) (t8 : y_J8 a4 s) (h4 : 0 ≤ a4 ∧ a4 + 6 ≤ L) (hr : ∀ s' v, y_LX s' → y_I6 s' → y_J7 s' → y_J8 (a4 + 6) s' → v = a4 + 6 → z_T (r s' v) P) : z_T (fL_law_J571 fu L xs s 1 309 7658 a4 r k) P := by
  refine T_of (fL_law_J571.eq_1 ..) ?_
  refine T_leq (fun i1 f1 => ?_)
  have g1 := z_wx f1 (by omega)
  refine T_if1 (by omega) ?_
  refine T_leq (fun p1 e1 => ?_)
  have b1 : -2147483648 ≤ p1 ∧ p1 ≤ 2147483647 := by rw [← e1]; exact z_i32b _
  refine T_leq (fun i2 f2 => ?_)
  have g2 := z_wx f2 (by omega)
  refine T_if1 (by omega) ?_
  refine T_leq (fun p2 e2 => ?_)
  have b2 : -2147483648 ≤ p2 ∧ p2 ≤ 2147483647 := by rw [← e2]; exact z_i32b _
  refine T_useI (L_block hfu h t6 t7 t8 (by omega) p1 p2 b1 b2) (fun v s1 hq => ?_)
  obtain ⟨x, rfl, ⟨lc, sc⟩, c3, y4, k5⟩ := hq
  refine T_vI ?_
  refine T_leq (fun j1 f => ?_)
  have q9 : i1 = j1 := f1.symm.trans f
  subst q9
  refine T_if1 (by omega) ?_
  refine T_leq (fun p9 e => ?_)
  have q9 : p1 = p9 := e1.symm.trans e
  subst q9
  clear f e
  refine T_leq (fun j2 f => ?_)
  have q9 : i2 = j2 := f2.symm.trans f
  subst q9
  refine T_if1 (by omega) ?_
  refine T_leq (fun p9 e => ?_)
  have q9 : p2 = p9 := e2.symm.trans e
  subst q9
  clear f e
  refine T_if1 (by decide +kernel) ?_
  refine T_useI (M_block hfu h t6 t7 lc (t7.2.1.cls lc.2.2.2.2) (t7.2.2.1.cls lc.2.2.2.2) p1 p2 b1 b2 sc) (fun v s2 hq => ?_)
  obtain ⟨y, rfl, hq, m3, m12, km2, ym2⟩ := hq
  refine T_vI ?_
  have h2 := hq
  have n6 := t6.step c3 lc.2.2.2.2 m3 m12
  have n7 : y_J7 s2 := ⟨t7.1.step c3 m3, km2, ym2, y4.cls (fun a b q => m3 a b (Or.inl q))⟩
  have n8 : y_J8 (a4 + 6) s2 := t8.step k5 m3
  refine T_of (fL_law_J1338.eq_1 ..) ?_
  refine T_leq (fun z e => ?_)
  exact hr _ _ h2 n6 n7 n8 (z_wx e (by omega))
theorem k_611 {fu L : Nat} (hfu : 8589934592 ≤ fu) (hL : L ≤ 4000) {xs : Nat → Int32} {s : z_M} {a4 : Int} {r : z_M → Int → z_O} {k : z_M → z_O} {P : z_V → z_M → Prop} (h : y_LX s) (t6 : y_I6 s) (t7 : y_J7 s) (t8 : y_J8 a4 s) (h4 : 0 ≤ a4 ∧ a4 + 6 ≤ L) (hr : ∀ s' v, y_LX s' → y_I6 s' → y_J7 s' → y_J8 (a4 + 6) s' → v = a4 + 6 → z_T (r s' v) P) : z_T (fL_law_J611 fu L xs s 1 309 7658 a4 r k) P := by
  refine T_of (fL_law_J611.eq_1 ..) ?_
  refine T_leq (fun i1 f1 => ?_)
  have g1 := z_wx f1 (by omega)
  refine T_if1 (by omega) ?_
  refine T_leq (fun p1 e1 => ?_)
  have b1 : -2147483648 ≤ p1 ∧ p1 ≤ 2147483647 := by rw [← e1]; exact z_i32b _
  refine T_leq (fun i2 f2 => ?_)
  have g2 := z_wx f2 (by omega)
  refine T_if1 (by omega) ?_
  refine T_leq (fun p2 e2 => ?_)
  have b2 : -2147483648 ≤ p2 ∧ p2 ≤ 2147483647 := by rw [← e2]; exact z_i32b _
  refine T_leq (fun i3 f3 => ?_)
  have g3 := z_wx f3 (by omega)
  refine T_if1 (by omega) ?_
  refine T_leq (fun p3 e3 => ?_)
  have b3 : -2147483648 ≤ p3 ∧ p3 ≤ 2147483647 := by rw [← e3]; exact z_i32b _
  refine T_leq (fun i4 f4 => ?_)
  have g4 := z_wx f4 (by omega)
  refine T_if1 (by omega) ?_
  refine T_leq (fun p4 e4 => ?_)
  have b4 : -2147483648 ≤ p4 ∧ p4 ≤ 2147483647 := by rw [← e4]; exact z_i32b _
  refine T_useI (L_reading hfu h t6 t7 t8 (by omega) p1 p2 p3 p4 b1 b2 b3 b4) (fun v s1 hq => ?_)
  obtain ⟨x, rfl, ⟨lc, sc⟩, c3, y4, k5⟩ := hq
  refine T_vI ?_
  refine T_leq (fun j1 f => ?_)
  have q9 : i1 = j1 := f1.symm.trans f
  subst q9
  refine T_if1 (by omega) ?_
  refine T_leq (fun p9 e => ?_)
  have q9 : p1 = p9 := e1.symm.trans e
  subst q9
  clear f e
  refine T_leq (fun j2 f => ?_)
  have q9 : i2 = j2 := f2.symm.trans f
  subst q9
  refine T_if1 (by omega) ?_
  refine T_leq (fun p9 e => ?_)
  have q9 : p2 = p9 := e2.symm.trans e
  subst q9
  clear f e
  refine T_leq (fun j3 f => ?_)
  have q9 : i3 = j3 := f3.symm.trans f
  subst q9
  refine T_if1 (by omega) ?_
  refine T_leq (fun p9 e => ?_)
  have q9 : p3 = p9 := e3.symm.trans e
  subst q9
  clear f e
  refine T_leq (fun j4 f => ?_)
  have q9 : i4 = j4 := f4.symm.trans f
  subst q9
  refine T_if1 (by omega) ?_
  refine T_leq (fun p9 e => ?_)
  have q9 : p4 = p9 := e4.symm.trans e
  subst q9
  clear f e
  refine T_if1 (by decide +kernel) ?_
  refine T_useI (M_reading hfu h t6 t7 lc (t7.2.1.cls lc.2.2.2.2) (t7.2.2.1.cls lc.2.2.2.2) p1 p2 p3 p4 b1 b2 b3 b4 sc) (fun v s2 hq => ?_)
  obtain ⟨y, rfl, hq, m3, m12, km2, ym2⟩ := hq
  refine T_vI ?_
  have h2 := hq
  have n6 := t6.step c3 lc.2.2.2.2 m3 m12
  have n7 : y_J7 s2 := ⟨t7.1.step c3 m3, km2, ym2, y4.cls (fun a b q => m3 a b (Or.inl q))⟩
  have n8 : y_J8 (a4 + 6) s2 := t8.step k5 m3
  refine T_of (fL_law_J1338.eq_1 ..) ?_
  refine T_leq (fun z e => ?_)
  exact hr _ _ h2 n6 n7 n8 (z_wx e (by omega))
theorem k_675 {fu L : Nat} (hfu : 8589934592 ≤ fu) (hL : L ≤ 4000) {xs : Nat → Int32} {s : z_M} {a4 : Int} {r : z_M → Int → z_O} {k : z_M → z_O} {P : z_V → z_M → Prop} (h : y_LX s) (t6 : y_I6 s) (t7 : y_J7 s) (t8 : y_J8 a4 s) (h4 : 0 ≤ a4 ∧ a4 + 6 ≤ L) (hr : ∀ s' v, y_LX s' → y_I6 s' → y_J7 s' → y_J8 (a4 + 6) s' → v = a4 + 6 → z_T (r s' v) P) : z_T (fL_law_J675 fu L xs s 1 309 7658 a4 r k) P := by
  refine T_of (fL_law_J675.eq_1 ..) ?_
  refine T_leq (fun i1 f1 => ?_)
  have g1 := z_wx f1 (by omega)
  refine T_if1 (by omega) ?_
  refine T_leq (fun p1 e1 => ?_)
  have b1 : -2147483648 ≤ p1 ∧ p1 ≤ 2147483647 := by rw [← e1]; exact z_i32b _
  refine T_leq (fun i2 f2 => ?_)
  have g2 := z_wx f2 (by omega)
  refine T_if1 (by omega) ?_
  refine T_leq (fun p2 e2 => ?_)
  have b2 : -2147483648 ≤ p2 ∧ p2 ≤ 2147483647 := by rw [← e2]; exact z_i32b _
  refine T_useI (L_run hfu h t6 t7 t8 (by omega) p1 p2 b1 b2) (fun v s1 hq => ?_)
  obtain ⟨x, rfl, ⟨lc, sc⟩, c3, y4, k5⟩ := hq
  refine T_vI ?_
  refine T_leq (fun j1 f => ?_)
  have q9 : i1 = j1 := f1.symm.trans f
  subst q9
  refine T_if1 (by omega) ?_
  refine T_leq (fun p9 e => ?_)
  have q9 : p1 = p9 := e1.symm.trans e
  subst q9
  clear f e
  refine T_leq (fun j2 f => ?_)
  have q9 : i2 = j2 := f2.symm.trans f
  subst q9
  refine T_if1 (by omega) ?_
  refine T_leq (fun p9 e => ?_)
  have q9 : p2 = p9 := e2.symm.trans e
  subst q9
  clear f e
  refine T_if1 (by decide +kernel) ?_
  refine T_useI (M_run hfu h t6 t7 lc (t7.2.1.cls lc.2.2.2.2) (t7.2.2.1.cls lc.2.2.2.2) p1 p2 b1 b2 sc) (fun v s2 hq => ?_)
  obtain ⟨y, rfl, hq, m3, m12, km2, ym2⟩ := hq
  refine T_vI ?_
  have h2 := hq
  have n6 := t6.step c3 lc.2.2.2.2 m3 m12
  have n7 : y_J7 s2 := ⟨t7.1.step c3 m3, km2, ym2, y4.cls (fun a b q => m3 a b (Or.inl q))⟩
  have n8 : y_J8 (a4 + 6) s2 := t8.step k5 m3
  refine T_of (fL_law_J1338.eq_1 ..) ?_
  refine T_leq (fun z e => ?_)
  exact hr _ _ h2 n6 n7 n8 (z_wx e (by omega))
theorem k_715 {fu L : Nat} (hfu : 8589934592 ≤ fu) (hL : L ≤ 4000) {xs : Nat → Int32} {s : z_M} {a4 : Int} {r : z_M → Int → z_O} {k : z_M → z_O} {P : z_V → z_M → Prop} (h : y_LX s) (t6 : y_I6 s) (t7 : y_J7 s) (t8 : y_J8 a4 s) (h4 : 0 ≤ a4 ∧ a4 + 6 ≤ L) (hr : ∀ s' v, y_LX s' → y_I6 s' → y_J7 s' → y_J8 (a4 + 6) s' → v = a4 + 6 → z_T (r s' v) P) : z_T (fL_law_J715 fu L xs s 1 309 7658 a4 r k) P := by
  refine T_of (fL_law_J715.eq_1 ..) ?_
  refine T_leq (fun i1 f1 => ?_)
  have g1 := z_wx f1 (by omega)
  refine T_if1 (by omega) ?_
  refine T_leq (fun p1 e1 => ?_)
  have b1 : -2147483648 ≤ p1 ∧ p1 ≤ 2147483647 := by rw [← e1]; exact z_i32b _
  refine T_leq (fun i2 f2 => ?_)
  have g2 := z_wx f2 (by omega)
  refine T_if1 (by omega) ?_
  refine T_leq (fun p2 e2 => ?_)
  have b2 : -2147483648 ≤ p2 ∧ p2 ≤ 2147483647 := by rw [← e2]; exact z_i32b _
  refine T_useI (L_at hfu h t6 t7 t8 (by omega) p1 p2 b1 b2) (fun v s1 hq => ?_)
  obtain ⟨x, rfl, ⟨lc, sc⟩, c3, y4, k5⟩ := hq
  refine T_vI ?_
  refine T_leq (fun j1 f => ?_)
  have q9 : i1 = j1 := f1.symm.trans f
  subst q9
  refine T_if1 (by omega) ?_
  refine T_leq (fun p9 e => ?_)
  have q9 : p1 = p9 := e1.symm.trans e
  subst q9
  clear f e
  refine T_leq (fun j2 f => ?_)
  have q9 : i2 = j2 := f2.symm.trans f
  subst q9
  refine T_if1 (by omega) ?_
  refine T_leq (fun p9 e => ?_)
  have q9 : p2 = p9 := e2.symm.trans e
  subst q9
  clear f e
  refine T_if1 (by decide +kernel) ?_
  refine T_useI (M_at hfu h t6 t7 lc (t7.2.1.cls lc.2.2.2.2) (t7.2.2.1.cls lc.2.2.2.2) p1 p2 b1 b2 sc) (fun v s2 hq => ?_)
  obtain ⟨y, rfl, hq, m3, m12, km2, ym2⟩ := hq
  refine T_vI ?_
  have h2 := hq
  have n6 := t6.step c3 lc.2.2.2.2 m3 m12
  have n7 : y_J7 s2 := ⟨t7.1.step c3 m3, km2, ym2, y4.cls (fun a b q => m3 a b (Or.inl q))⟩
  have n8 : y_J8 (a4 + 6) s2 := t8.step k5 m3
  refine T_of (fL_law_J1338.eq_1 ..) ?_
  refine T_leq (fun z e => ?_)
  exact hr _ _ h2 n6 n7 n8 (z_wx e (by omega))
theorem k_755 {fu L : Nat} (hfu : 8589934592 ≤ fu) (hL : L ≤ 4000) {xs : Nat → Int32} {s : z_M} {a4 : Int} {r : z_M → Int → z_O} {k : z_M → z_O} {P : z_V → z_M → Prop} (h : y_LX s) (t6 : y_I6 s) (t7 : y_J7 s) (t8 : y_J8 a4 s) (h4 : 0 ≤ a4 ∧ a4 + 6 ≤ L) (hr : ∀ s' v, y_LX s' → y_I6 s' → y_J7 s' → y_J8 (a4 + 6) s' → v = a4 + 6 → z_T (r s' v) P) : z_T (fL_law_J755 fu L xs s 1 309 7658 a4 r k) P := by
  refine T_of (fL_law_J755.eq_1 ..) ?_
  refine T_leq (fun i1 f1 => ?_)
  have g1 := z_wx f1 (by omega)
  refine T_if1 (by omega) ?_
  refine T_leq (fun p1 e1 => ?_)
  have b1 : -2147483648 ≤ p1 ∧ p1 ≤ 2147483647 := by rw [← e1]; exact z_i32b _
  refine T_useI (L_ends hfu h t6 t7 t8 (by omega) p1 b1) (fun v s1 hq => ?_)
  obtain ⟨x, rfl, ⟨lc, sc⟩, c3, y4, k5⟩ := hq
  refine T_vI ?_
  refine T_leq (fun j1 f => ?_)
  have q9 : i1 = j1 := f1.symm.trans f
  subst q9
  refine T_if1 (by omega) ?_
  refine T_leq (fun p9 e => ?_)
  have q9 : p1 = p9 := e1.symm.trans e
  subst q9
  clear f e
  refine T_if1 (by decide +kernel) ?_
  refine T_useI (M_ends hfu h t6 t7 lc (t7.2.1.cls lc.2.2.2.2) (t7.2.2.1.cls lc.2.2.2.2) p1 b1 sc) (fun v s2 hq => ?_)
  obtain ⟨y, rfl, hq, m3, m12, km2, ym2⟩ := hq
  refine T_vI ?_
  have h2 := hq
  have n6 := t6.step c3 lc.2.2.2.2 m3 m12
  have n7 : y_J7 s2 := ⟨t7.1.step c3 m3, km2, ym2, y4.cls (fun a b q => m3 a b (Or.inl q))⟩
  have n8 : y_J8 (a4 + 6) s2 := t8.step k5 m3
  refine T_of (fL_law_J1338.eq_1 ..) ?_
  refine T_leq (fun z e => ?_)
  exact hr _ _ h2 n6 n7 n8 (z_wx e (by omega))
theorem k_783 {fu L : Nat} (hfu : 8589934592 ≤ fu) (hL : L ≤ 4000) {xs : Nat → Int32} {s : z_M} {a4 : Int} {r : z_M → Int → z_O} {k : z_M → z_O} {P : z_V → z_M → Prop} (h : y_LX s) (t6 : y_I6 s) (t7 : y_J7 s) (t8 : y_J8 a4 s) (h4 : 0 ≤ a4 ∧ a4 + 6 ≤ L) (hr : ∀ s' v, y_LX s' → y_I6 s' → y_J7 s' → y_J8 (a4 + 6) s' → v = a4 + 6 → z_T (r s' v) P) : z_T (fL_law_J783 fu L xs s 1 309 7658 a4 r k) P := by
  refine T_of (fL_law_J783.eq_1 ..) ?_
  refine T_leq (fun i1 f1 => ?_)
  have g1 := z_wx f1 (by omega)
  refine T_if1 (by omega) ?_
  refine T_leq (fun p1 e1 => ?_)
  have b1 : -2147483648 ≤ p1 ∧ p1 ≤ 2147483647 := by rw [← e1]; exact z_i32b _
  refine T_leq (fun i2 f2 => ?_)
  have g2 := z_wx f2 (by omega)
  refine T_if1 (by omega) ?_
  refine T_leq (fun p2 e2 => ?_)
  have b2 : -2147483648 ≤ p2 ∧ p2 ≤ 2147483647 := by rw [← e2]; exact z_i32b _
  refine T_useI (L_longOf hfu h t6 t7 t8 (by omega) p1 p2 b1 b2) (fun v s1 hq => ?_)
  obtain ⟨x, rfl, ⟨lc, sc⟩, c3, y4, k5⟩ := hq
  refine T_vI ?_
  refine T_leq (fun j1 f => ?_)
  have q9 : i1 = j1 := f1.symm.trans f
  subst q9
  refine T_if1 (by omega) ?_
  refine T_leq (fun p9 e => ?_)
  have q9 : p1 = p9 := e1.symm.trans e
  subst q9
  clear f e
  refine T_leq (fun j2 f => ?_)
  have q9 : i2 = j2 := f2.symm.trans f
  subst q9
  refine T_if1 (by omega) ?_
  refine T_leq (fun p9 e => ?_)
  have q9 : p2 = p9 := e2.symm.trans e
  subst q9
  clear f e
  refine T_if1 (by decide +kernel) ?_
  refine T_useI (M_longOf hfu h t6 t7 lc (t7.2.1.cls lc.2.2.2.2) (t7.2.2.1.cls lc.2.2.2.2) p1 p2 b1 b2 sc) (fun v s2 hq => ?_)
  obtain ⟨y, rfl, hq, m3, m12, km2, ym2⟩ := hq
  refine T_vI ?_
  have h2 := hq
  have n6 := t6.step c3 lc.2.2.2.2 m3 m12
  have n7 : y_J7 s2 := ⟨t7.1.step c3 m3, km2, ym2, y4.cls (fun a b q => m3 a b (Or.inl q))⟩
  have n8 : y_J8 (a4 + 6) s2 := t8.step k5 m3
  refine T_of (fL_law_J1338.eq_1 ..) ?_
  refine T_leq (fun z e => ?_)
  exact hr _ _ h2 n6 n7 n8 (z_wx e (by omega))
theorem k_823 {fu L : Nat} (hfu : 8589934592 ≤ fu) (hL : L ≤ 4000) {xs : Nat → Int32} {s : z_M} {a4 : Int} {r : z_M → Int → z_O} {k : z_M → z_O} {P : z_V → z_M → Prop} (h : y_LX s) (t6 : y_I6 s) (t7 : y_J7 s) (t8 : y_J8 a4 s) (h4 : 0 ≤ a4 ∧ a4 + 6 ≤ L) (hr : ∀ s' v, y_LX s' → y_I6 s' → y_J7 s' → y_J8 (a4 + 6) s' → v = a4 + 6 → z_T (r s' v) P) : z_T (fL_law_J823 fu L xs s 1 309 7658 a4 r k) P := by
  refine T_of (fL_law_J823.eq_1 ..) ?_
  refine T_leq (fun i1 f1 => ?_)
  have g1 := z_wx f1 (by omega)
  refine T_if1 (by omega) ?_
  refine T_leq (fun p1 e1 => ?_)
  have b1 : -2147483648 ≤ p1 ∧ p1 ≤ 2147483647 := by rw [← e1]; exact z_i32b _
  refine T_leq (fun i2 f2 => ?_)
  have g2 := z_wx f2 (by omega)
  refine T_if1 (by omega) ?_
  refine T_leq (fun p2 e2 => ?_)
  have b2 : -2147483648 ≤ p2 ∧ p2 ≤ 2147483647 := by rw [← e2]; exact z_i32b _
  refine T_useI (L_lines hfu h t6 t7 t8 (by omega) p1 p2 b1 b2) (fun v s1 hq => ?_)
  obtain ⟨x, rfl, ⟨lc, sc⟩, c3, y4, k5⟩ := hq
  refine T_vI ?_
  refine T_leq (fun j1 f => ?_)
  have q9 : i1 = j1 := f1.symm.trans f
  subst q9
  refine T_if1 (by omega) ?_
  refine T_leq (fun p9 e => ?_)
  have q9 : p1 = p9 := e1.symm.trans e
  subst q9
  clear f e
  refine T_leq (fun j2 f => ?_)
  have q9 : i2 = j2 := f2.symm.trans f
  subst q9
  refine T_if1 (by omega) ?_
  refine T_leq (fun p9 e => ?_)
  have q9 : p2 = p9 := e2.symm.trans e
  subst q9
  clear f e
  refine T_if1 (by decide +kernel) ?_
  refine T_useI (M_lines hfu h t6 t7 lc (t7.2.1.cls lc.2.2.2.2) (t7.2.2.1.cls lc.2.2.2.2) p1 p2 b1 b2 sc) (fun v s2 hq => ?_)
  obtain ⟨y, rfl, hq, m3, m12, km2, ym2⟩ := hq
  refine T_vI ?_
  have h2 := hq
  have n6 := t6.step c3 lc.2.2.2.2 m3 m12
  have n7 : y_J7 s2 := ⟨t7.1.step c3 m3, km2, ym2, y4.cls (fun a b q => m3 a b (Or.inl q))⟩
  have n8 : y_J8 (a4 + 6) s2 := t8.step k5 m3
  refine T_of (fL_law_J1338.eq_1 ..) ?_
  refine T_leq (fun z e => ?_)
  exact hr _ _ h2 n6 n7 n8 (z_wx e (by omega))
theorem k_863 {fu L : Nat} (hfu : 8589934592 ≤ fu) (hL : L ≤ 4000) {xs : Nat → Int32} {s : z_M} {a4 : Int} {r : z_M → Int → z_O} {k : z_M → z_O} {P : z_V → z_M → Prop} (h : y_LX s) (t6 : y_I6 s) (t7 : y_J7 s) (t8 : y_J8 a4 s) (h4 : 0 ≤ a4 ∧ a4 + 6 ≤ L) (hr : ∀ s' v, y_LX s' → y_I6 s' → y_J7 s' → y_J8 (a4 + 6) s' → v = a4 + 6 → z_T (r s' v) P) : z_T (fL_law_J863 fu L xs s 1 309 7658 a4 r k) P := by
  refine T_of (fL_law_J863.eq_1 ..) ?_
  refine T_leq (fun i1 f1 => ?_)
  have g1 := z_wx f1 (by omega)
  refine T_if1 (by omega) ?_
  refine T_leq (fun p1 e1 => ?_)
  have b1 : -2147483648 ≤ p1 ∧ p1 ≤ 2147483647 := by rw [← e1]; exact z_i32b _
  refine T_useI (L_least hfu h t6 t7 t8 (by omega) p1 b1) (fun v s1 hq => ?_)
  obtain ⟨x, rfl, ⟨lc, sc⟩, c3, y4, k5⟩ := hq
  refine T_vI ?_
  refine T_leq (fun j1 f => ?_)
  have q9 : i1 = j1 := f1.symm.trans f
  subst q9
  refine T_if1 (by omega) ?_
  refine T_leq (fun p9 e => ?_)
  have q9 : p1 = p9 := e1.symm.trans e
  subst q9
  clear f e
  refine T_if1 (by decide +kernel) ?_
  refine T_useI (M_least hfu h t6 t7 lc (t7.2.1.cls lc.2.2.2.2) (t7.2.2.1.cls lc.2.2.2.2) p1 b1 sc) (fun v s2 hq => ?_)
  obtain ⟨y, rfl, hq, m3, m12, km2, ym2⟩ := hq
  refine T_vI ?_
  have h2 := hq
  have n6 := t6.step c3 lc.2.2.2.2 m3 m12
  have n7 : y_J7 s2 := ⟨t7.1.step c3 m3, km2, ym2, y4.cls (fun a b q => m3 a b (Or.inl q))⟩
  have n8 : y_J8 (a4 + 6) s2 := t8.step k5 m3
  refine T_of (fL_law_J1338.eq_1 ..) ?_
  refine T_leq (fun z e => ?_)
  exact hr _ _ h2 n6 n7 n8 (z_wx e (by omega))
theorem k_891 {fu L : Nat} (hfu : 8589934592 ≤ fu) (hL : L ≤ 4000) {xs : Nat → Int32} {s : z_M} {a4 : Int} {r : z_M → Int → z_O} {k : z_M → z_O} {P : z_V → z_M → Prop} (h : y_LX s) (t6 : y_I6 s) (t7 : y_J7 s) (t8 : y_J8 a4 s) (h4 : 0 ≤ a4 ∧ a4 + 6 ≤ L) (hr : ∀ s' v, y_LX s' → y_I6 s' → y_J7 s' → y_J8 (a4 + 6) s' → v = a4 + 6 → z_T (r s' v) P) : z_T (fL_law_J891 fu L xs s 1 309 7658 a4 r k) P := by
  refine T_of (fL_law_J891.eq_1 ..) ?_
  refine T_if1 (by decide +kernel) ?_
  refine T_useL (L_better hfu h t6 t7 t8 (by omega)) (fun v s1 hq => ?_)
  obtain ⟨x, rfl, ⟨lc, sc⟩, c3, y4, k5⟩ := hq
  refine T_vL ?_
  refine T_if1 (by decide +kernel) ?_
  refine T_useL (M_better hfu h t6 t7 lc (t7.2.1.cls lc.2.2.2.2) (t7.2.2.1.cls lc.2.2.2.2) sc) (fun v s2 hq => ?_)
  obtain ⟨y, rfl, hq, m3, m12, km2, ym2⟩ := hq
  refine T_vL ?_
  have h2 := hq
  have n6 := t6.step c3 lc.2.2.2.2 m3 m12
  have n7 : y_J7 s2 := ⟨t7.1.step c3 m3, km2, ym2, y4.cls (fun a b q => m3 a b (Or.inl q))⟩
  have n8 : y_J8 (a4 + 6) s2 := t8.step k5 m3
  refine T_of (fL_law_J1338.eq_1 ..) ?_
  refine T_leq (fun z e => ?_)
  exact hr _ _ h2 n6 n7 n8 (z_wx e (by omega))
theorem k_904 {fu L : Nat} (hfu : 8589934592 ≤ fu) (hL : L ≤ 4000) {xs : Nat → Int32} {s : z_M} {a4 : Int} {r : z_M → Int → z_O} {k : z_M → z_O} {P : z_V → z_M → Prop} (h : y_LX s) (t6 : y_I6 s) (t7 : y_J7 s) (t8 : y_J8 a4 s) (h4 : 0 ≤ a4 ∧ a4 + 6 ≤ L) (hr : ∀ s' v, y_LX s' → y_I6 s' → y_J7 s' → y_J8 (a4 + 6) s' → v = a4 + 6 → z_T (r s' v) P) : z_T (fL_law_J904 fu L xs s 1 309 7658 a4 r k) P := by
  refine T_of (fL_law_J904.eq_1 ..) ?_
  refine T_leq (fun i1 f1 => ?_)
  have g1 := z_wx f1 (by omega)
  refine T_if1 (by omega) ?_
  refine T_leq (fun p1 e1 => ?_)
  have b1 : -2147483648 ≤ p1 ∧ p1 ≤ 2147483647 := by rw [← e1]; exact z_i32b _
  refine T_useI (L_marks hfu h t6 t7 t8 (by omega) p1 b1) (fun v s1 hq => ?_)
  obtain ⟨x, rfl, ⟨lc, sc⟩, c3, y4, k5⟩ := hq
  refine T_vI ?_
  refine T_leq (fun j1 f => ?_)
  have q9 : i1 = j1 := f1.symm.trans f
  subst q9
  refine T_if1 (by omega) ?_
  refine T_leq (fun p9 e => ?_)
  have q9 : p1 = p9 := e1.symm.trans e
  subst q9
  clear f e
  refine T_if1 (by decide +kernel) ?_
  refine T_useI (M_marks hfu h t6 t7 lc (t7.2.1.cls lc.2.2.2.2) (t7.2.2.1.cls lc.2.2.2.2) p1 b1 sc) (fun v s2 hq => ?_)
  obtain ⟨y, rfl, hq, m3, m12, km2, ym2⟩ := hq
  refine T_vI ?_
  have h2 := hq
  have n6 := t6.step c3 lc.2.2.2.2 m3 m12
  have n7 : y_J7 s2 := ⟨t7.1.step c3 m3, km2, ym2, y4.cls (fun a b q => m3 a b (Or.inl q))⟩
  have n8 : y_J8 (a4 + 6) s2 := t8.step k5 m3
  refine T_of (fL_law_J1338.eq_1 ..) ?_
  refine T_leq (fun z e => ?_)
  exact hr _ _ h2 n6 n7 n8 (z_wx e (by omega))
theorem k_932 {fu L : Nat} (hfu : 8589934592 ≤ fu) (hL : L ≤ 4000) {xs : Nat → Int32} {s : z_M} {a4 : Int} {r : z_M → Int → z_O} {k : z_M → z_O} {P : z_V → z_M → Prop} (h : y_LX s) (t6 : y_I6 s) (t7 : y_J7 s) (t8 : y_J8 a4 s) (h4 : 0 ≤ a4 ∧ a4 + 6 ≤ L) (hr : ∀ s' v, y_LX s' → y_I6 s' → y_J7 s' → y_J8 (a4 + 6) s' → v = a4 + 6 → z_T (r s' v) P) : z_T (fL_law_J932 fu L xs s 1 309 7658 a4 r k) P := by
  refine T_of (fL_law_J932.eq_1 ..) ?_
  refine T_if1 (by decide +kernel) ?_
  refine T_useI (L_moves hfu h t6 t7 t8 (by omega)) (fun v s1 hq => ?_)
  obtain ⟨x, rfl, ⟨lc, sc⟩, c3, y4, k5⟩ := hq
  refine T_vI ?_
  refine T_if1 (by decide +kernel) ?_
  refine T_useI (M_moves hfu h t6 t7 lc (t7.2.1.cls lc.2.2.2.2) (t7.2.2.1.cls lc.2.2.2.2) sc) (fun v s2 hq => ?_)
  obtain ⟨y, rfl, hq, m3, m12, km2, ym2⟩ := hq
  refine T_vI ?_
  have h2 := hq
  have n6 := t6.step c3 lc.2.2.2.2 m3 m12
  have n7 : y_J7 s2 := ⟨t7.1.step c3 m3, km2, ym2, y4.cls (fun a b q => m3 a b (Or.inl q))⟩
  have n8 : y_J8 (a4 + 6) s2 := t8.step k5 m3
  refine T_of (fL_law_J1338.eq_1 ..) ?_
  refine T_leq (fun z e => ?_)
  exact hr _ _ h2 n6 n7 n8 (z_wx e (by omega))
theorem k_945 {fu L : Nat} (hfu : 8589934592 ≤ fu) (hL : L ≤ 4000) {xs : Nat → Int32} {s : z_M} {a4 : Int} {r : z_M → Int → z_O} {k : z_M → z_O} {P : z_V → z_M → Prop} (h : y_LX s) (t6 : y_I6 s) (t7 : y_J7 s) (t8 : y_J8 a4 s) (h4 : 0 ≤ a4 ∧ a4 + 6 ≤ L) (hr : ∀ s' v, y_LX s' → y_I6 s' → y_J7 s' → y_J8 (a4 + 6) s' → v = a4 + 6 → z_T (r s' v) P) : z_T (fL_law_J945 fu L xs s 1 309 7658 a4 r k) P := by
  refine T_of (fL_law_J945.eq_1 ..) ?_
  refine T_leq (fun i1 f1 => ?_)
  have g1 := z_wx f1 (by omega)
  refine T_if1 (by omega) ?_
  refine T_leq (fun p1 e1 => ?_)
  have b1 : -2147483648 ≤ p1 ∧ p1 ≤ 2147483647 := by rw [← e1]; exact z_i32b _
  refine T_useI (L_lend hfu h t6 t7 t8 (by omega) p1 b1) (fun v s1 hq => ?_)
  obtain ⟨x, rfl, ⟨lc, sc⟩, c3, y4, k5⟩ := hq
  refine T_vI ?_
  refine T_leq (fun j1 f => ?_)
  have q9 : i1 = j1 := f1.symm.trans f
  subst q9
  refine T_if1 (by omega) ?_
  refine T_leq (fun p9 e => ?_)
  have q9 : p1 = p9 := e1.symm.trans e
  subst q9
  clear f e
  refine T_if1 (by decide +kernel) ?_
  refine T_useI (M_lend hfu h t6 t7 lc (t7.2.1.cls lc.2.2.2.2) (t7.2.2.1.cls lc.2.2.2.2) p1 b1 sc) (fun v s2 hq => ?_)
  obtain ⟨y, rfl, hq, m3, m12, km2, ym2⟩ := hq
  refine T_vI ?_
  have h2 := hq
  have n6 := t6.step c3 lc.2.2.2.2 m3 m12
  have n7 : y_J7 s2 := ⟨t7.1.step c3 m3, km2, ym2, y4.cls (fun a b q => m3 a b (Or.inl q))⟩
  have n8 : y_J8 (a4 + 6) s2 := t8.step k5 m3
  refine T_of (fL_law_J1338.eq_1 ..) ?_
  refine T_leq (fun z e => ?_)
  exact hr _ _ h2 n6 n7 n8 (z_wx e (by omega))
theorem k_973 {fu L : Nat} (hfu : 8589934592 ≤ fu) (hL : L ≤ 4000) {xs : Nat → Int32} {s : z_M} {a4 : Int} {r : z_M → Int → z_O} {k : z_M → z_O} {P : z_V → z_M → Prop} (h : y_LX s) (t6 : y_I6 s) (t7 : y_J7 s) (t8 : y_J8 a4 s) (h4 : 0 ≤ a4 ∧ a4 + 6 ≤ L) (hr : ∀ s' v, y_LX s' → y_I6 s' → y_J7 s' → y_J8 (a4 + 6) s' → v = a4 + 6 → z_T (r s' v) P) : z_T (fL_law_J973 fu L xs s 1 309 7658 a4 r k) P := by
  refine T_of (fL_law_J973.eq_1 ..) ?_
  refine T_leq (fun i1 f1 => ?_)
  have g1 := z_wx f1 (by omega)
  refine T_if1 (by omega) ?_
  refine T_leq (fun p1 e1 => ?_)
  have b1 : -2147483648 ≤ p1 ∧ p1 ≤ 2147483647 := by rw [← e1]; exact z_i32b _
  refine T_useI (L_nearest hfu h t6 t7 t8 (by omega) p1 b1) (fun v s1 hq => ?_)
  obtain ⟨x, rfl, ⟨lc, sc⟩, c3, y4, k5⟩ := hq
  refine T_vI ?_
  refine T_leq (fun j1 f => ?_)
  have q9 : i1 = j1 := f1.symm.trans f
  subst q9
  refine T_if1 (by omega) ?_
  refine T_leq (fun p9 e => ?_)
  have q9 : p1 = p9 := e1.symm.trans e
  subst q9
  clear f e
  refine T_if1 (by decide +kernel) ?_
  refine T_useI (M_nearest hfu h t6 t7 lc (t7.2.1.cls lc.2.2.2.2) (t7.2.2.1.cls lc.2.2.2.2) p1 b1 sc) (fun v s2 hq => ?_)
  obtain ⟨y, rfl, hq, m3, m12, km2, ym2⟩ := hq
  refine T_vI ?_
  have h2 := hq
  have n6 := t6.step c3 lc.2.2.2.2 m3 m12
  have n7 : y_J7 s2 := ⟨t7.1.step c3 m3, km2, ym2, y4.cls (fun a b q => m3 a b (Or.inl q))⟩
  have n8 : y_J8 (a4 + 6) s2 := t8.step k5 m3
  refine T_of (fL_law_J1338.eq_1 ..) ?_
  refine T_leq (fun z e => ?_)
  exact hr _ _ h2 n6 n7 n8 (z_wx e (by omega))
theorem k_1001 {fu L : Nat} (hfu : 8589934592 ≤ fu) (hL : L ≤ 4000) {xs : Nat → Int32} {s : z_M} {a4 : Int} {r : z_M → Int → z_O} {k : z_M → z_O} {P : z_V → z_M → Prop} (h : y_LX s) (t6 : y_I6 s) (t7 : y_J7 s) (t8 : y_J8 a4 s) (h4 : 0 ≤ a4 ∧ a4 + 6 ≤ L) (hr : ∀ s' v, y_LX s' → y_I6 s' → y_J7 s' → y_J8 (a4 + 6) s' → v = a4 + 6 → z_T (r s' v) P) : z_T (fL_law_J1001 fu L xs s 1 309 7658 a4 r k) P := by
  refine T_of (fL_law_J1001.eq_1 ..) ?_
  refine T_leq (fun i1 f1 => ?_)
  have g1 := z_wx f1 (by omega)
  refine T_if1 (by omega) ?_
  refine T_leq (fun p1 e1 => ?_)
  have b1 : -2147483648 ≤ p1 ∧ p1 ≤ 2147483647 := by rw [← e1]; exact z_i32b _
  refine T_useI (L_partner hfu h t6 t7 t8 (by omega) p1 b1) (fun v s1 hq => ?_)
  obtain ⟨x, rfl, ⟨lc, sc⟩, c3, y4, k5⟩ := hq
  refine T_vI ?_
  refine T_leq (fun j1 f => ?_)
  have q9 : i1 = j1 := f1.symm.trans f
  subst q9
  refine T_if1 (by omega) ?_
  refine T_leq (fun p9 e => ?_)
  have q9 : p1 = p9 := e1.symm.trans e
  subst q9
  clear f e
  refine T_if1 (by decide +kernel) ?_
  refine T_useI (M_partner hfu h t6 t7 lc (t7.2.1.cls lc.2.2.2.2) (t7.2.2.1.cls lc.2.2.2.2) p1 b1 sc) (fun v s2 hq => ?_)
  obtain ⟨y, rfl, hq, m3, m12, km2, ym2⟩ := hq
  refine T_vI ?_
  have h2 := hq
  have n6 := t6.step c3 lc.2.2.2.2 m3 m12
  have n7 : y_J7 s2 := ⟨t7.1.step c3 m3, km2, ym2, y4.cls (fun a b q => m3 a b (Or.inl q))⟩
  have n8 : y_J8 (a4 + 6) s2 := t8.step k5 m3
  refine T_of (fL_law_J1338.eq_1 ..) ?_
  refine T_leq (fun z e => ?_)
  exact hr _ _ h2 n6 n7 n8 (z_wx e (by omega))
theorem k_1029 {fu L : Nat} (hfu : 8589934592 ≤ fu) (hL : L ≤ 4000) {xs : Nat → Int32} {s : z_M} {a4 : Int} {r : z_M → Int → z_O} {k : z_M → z_O} {P : z_V → z_M → Prop} (h : y_LX s) (t6 : y_I6 s) (t7 : y_J7 s) (t8 : y_J8 a4 s) (h4 : 0 ≤ a4 ∧ a4 + 6 ≤ L) (hr : ∀ s' v, y_LX s' → y_I6 s' → y_J7 s' → y_J8 (a4 + 6) s' → v = a4 + 6 → z_T (r s' v) P) : z_T (fL_law_J1029 fu L xs s 1 309 7658 a4 r k) P := by
  refine T_of (fL_law_J1029.eq_1 ..) ?_
  refine T_leq (fun i1 f1 => ?_)
  have g1 := z_wx f1 (by omega)
  refine T_if1 (by omega) ?_
  refine T_leq (fun p1 e1 => ?_)
  have b1 : -2147483648 ≤ p1 ∧ p1 ≤ 2147483647 := by rw [← e1]; exact z_i32b _
  refine T_leq (fun i2 f2 => ?_)
  have g2 := z_wx f2 (by omega)
  refine T_if1 (by omega) ?_
  refine T_leq (fun p2 e2 => ?_)
  have b2 : -2147483648 ≤ p2 ∧ p2 ≤ 2147483647 := by rw [← e2]; exact z_i32b _
  refine T_leq (fun i3 f3 => ?_)
  have g3 := z_wx f3 (by omega)
  refine T_if1 (by omega) ?_
  refine T_leq (fun p3 e3 => ?_)
  have b3 : -2147483648 ≤ p3 ∧ p3 ≤ 2147483647 := by rw [← e3]; exact z_i32b _
  refine T_useI (L_side hfu h t6 t7 t8 (by omega) p1 p2 p3 b1 b2 b3) (fun v s1 hq => ?_)
  obtain ⟨x, rfl, ⟨lc, sc⟩, c3, y4, k5⟩ := hq
  refine T_vI ?_
  refine T_leq (fun j1 f => ?_)
  have q9 : i1 = j1 := f1.symm.trans f
  subst q9
  refine T_if1 (by omega) ?_
  refine T_leq (fun p9 e => ?_)
  have q9 : p1 = p9 := e1.symm.trans e
  subst q9
  clear f e
  refine T_leq (fun j2 f => ?_)
  have q9 : i2 = j2 := f2.symm.trans f
  subst q9
  refine T_if1 (by omega) ?_
  refine T_leq (fun p9 e => ?_)
  have q9 : p2 = p9 := e2.symm.trans e
  subst q9
  clear f e
  refine T_leq (fun j3 f => ?_)
  have q9 : i3 = j3 := f3.symm.trans f
  subst q9
  refine T_if1 (by omega) ?_
  refine T_leq (fun p9 e => ?_)
  have q9 : p3 = p9 := e3.symm.trans e
  subst q9
  clear f e
  refine T_if1 (by decide +kernel) ?_
  refine T_useI (M_side hfu h t6 t7 lc (t7.2.1.cls lc.2.2.2.2) (t7.2.2.1.cls lc.2.2.2.2) p1 p2 p3 b1 b2 b3 sc) (fun v s2 hq => ?_)
  obtain ⟨y, rfl, hq, m3, m12, km2, ym2⟩ := hq
  refine T_vI ?_
  have h2 := hq
  have n6 := t6.step c3 lc.2.2.2.2 m3 m12
  have n7 : y_J7 s2 := ⟨t7.1.step c3 m3, km2, ym2, y4.cls (fun a b q => m3 a b (Or.inl q))⟩
  have n8 : y_J8 (a4 + 6) s2 := t8.step k5 m3
  refine T_of (fL_law_J1338.eq_1 ..) ?_
  refine T_leq (fun z e => ?_)
  exact hr _ _ h2 n6 n7 n8 (z_wx e (by omega))
theorem k_1081 {fu L : Nat} (hfu : 8589934592 ≤ fu) (hL : L ≤ 4000) {xs : Nat → Int32} {s : z_M} {a4 : Int} {r : z_M → Int → z_O} {k : z_M → z_O} {P : z_V → z_M → Prop} (h : y_LX s) (t6 : y_I6 s) (t7 : y_J7 s) (t8 : y_J8 a4 s) (h4 : 0 ≤ a4 ∧ a4 + 6 ≤ L) (hr : ∀ s' v, y_LX s' → y_I6 s' → y_J7 s' → y_J8 (a4 + 6) s' → v = a4 + 6 → z_T (r s' v) P) : z_T (fL_law_J1081 fu L xs s 1 309 7658 a4 r k) P := by
  refine T_of (fL_law_J1081.eq_1 ..) ?_
  refine T_leq (fun i1 f1 => ?_)
  have g1 := z_wx f1 (by omega)
  refine T_if1 (by omega) ?_
  refine T_leq (fun p1 e1 => ?_)
  have b1 : -2147483648 ≤ p1 ∧ p1 ≤ 2147483647 := by rw [← e1]; exact z_i32b _
  refine T_useI (L_gutter hfu h t6 t7 t8 (by omega) p1 b1) (fun v s1 hq => ?_)
  obtain ⟨x, rfl, ⟨lc, sc⟩, c3, y4, k5⟩ := hq
  refine T_vI ?_
  refine T_leq (fun j1 f => ?_)
  have q9 : i1 = j1 := f1.symm.trans f
  subst q9
  refine T_if1 (by omega) ?_
  refine T_leq (fun p9 e => ?_)
  have q9 : p1 = p9 := e1.symm.trans e
  subst q9
  clear f e
  refine T_if1 (by decide +kernel) ?_
  refine T_useI (M_gutter hfu h t6 t7 lc (t7.2.1.cls lc.2.2.2.2) (t7.2.2.1.cls lc.2.2.2.2) p1 b1 sc) (fun v s2 hq => ?_)
  obtain ⟨y, rfl, hq, m3, m12, km2, ym2⟩ := hq
  refine T_vI ?_
  have h2 := hq
  have n6 := t6.step c3 lc.2.2.2.2 m3 m12
  have n7 : y_J7 s2 := ⟨t7.1.step c3 m3, km2, ym2, y4.cls (fun a b q => m3 a b (Or.inl q))⟩
  have n8 : y_J8 (a4 + 6) s2 := t8.step k5 m3
  refine T_of (fL_law_J1338.eq_1 ..) ?_
  refine T_leq (fun z e => ?_)
  exact hr _ _ h2 n6 n7 n8 (z_wx e (by omega))
theorem k_1109 {fu L : Nat} (hfu : 8589934592 ≤ fu) (hL : L ≤ 4000) {xs : Nat → Int32} {s : z_M} {a4 : Int} {r : z_M → Int → z_O} {k : z_M → z_O} {P : z_V → z_M → Prop} (h : y_LX s) (t6 : y_I6 s) (t7 : y_J7 s) (t8 : y_J8 a4 s) (h4 : 0 ≤ a4 ∧ a4 + 6 ≤ L) (hr : ∀ s' v, y_LX s' → y_I6 s' → y_J7 s' → y_J8 (a4 + 6) s' → v = a4 + 6 → z_T (r s' v) P) : z_T (fL_law_J1109 fu L xs s 1 309 7658 a4 r k) P := by
  refine T_of (fL_law_J1109.eq_1 ..) ?_
  refine T_leq (fun i1 f1 => ?_)
  have g1 := z_wx f1 (by omega)
  refine T_if1 (by omega) ?_
  refine T_leq (fun p1 e1 => ?_)
  have b1 : -2147483648 ≤ p1 ∧ p1 ≤ 2147483647 := by rw [← e1]; exact z_i32b _
  refine T_useI (L_clash hfu h t6 t7 t8 (by omega) p1 b1) (fun v s1 hq => ?_)
  obtain ⟨x, rfl, ⟨lc, sc⟩, c3, y4, k5⟩ := hq
  refine T_vI ?_
  refine T_leq (fun j1 f => ?_)
  have q9 : i1 = j1 := f1.symm.trans f
  subst q9
  refine T_if1 (by omega) ?_
  refine T_leq (fun p9 e => ?_)
  have q9 : p1 = p9 := e1.symm.trans e
  subst q9
  clear f e
  refine T_if1 (by decide +kernel) ?_
  refine T_useI (M_clash hfu h t6 t7 lc (t7.2.1.cls lc.2.2.2.2) (t7.2.2.1.cls lc.2.2.2.2) p1 b1 sc) (fun v s2 hq => ?_)
  obtain ⟨y, rfl, hq, m3, m12, km2, ym2⟩ := hq
  refine T_vI ?_
  have h2 := hq
  have n6 := t6.step c3 lc.2.2.2.2 m3 m12
  have n7 : y_J7 s2 := ⟨t7.1.step c3 m3, km2, ym2, y4.cls (fun a b q => m3 a b (Or.inl q))⟩
  have n8 : y_J8 (a4 + 6) s2 := t8.step k5 m3
  refine T_of (fL_law_J1338.eq_1 ..) ?_
  refine T_leq (fun z e => ?_)
  exact hr _ _ h2 n6 n7 n8 (z_wx e (by omega))
theorem k_1137 {fu L : Nat} (hfu : 8589934592 ≤ fu) (hL : L ≤ 4000) {xs : Nat → Int32} {s : z_M} {a4 : Int} {r : z_M → Int → z_O} {k : z_M → z_O} {P : z_V → z_M → Prop} (h : y_LX s) (t6 : y_I6 s) (t7 : y_J7 s) (t8 : y_J8 a4 s) (h4 : 0 ≤ a4 ∧ a4 + 6 ≤ L) (hr : ∀ s' v, y_LX s' → y_I6 s' → y_J7 s' → y_J8 (a4 + 6) s' → v = a4 + 6 → z_T (r s' v) P) : z_T (fL_law_J1137 fu L xs s 1 309 7658 a4 r k) P := by
  refine T_of (fL_law_J1137.eq_1 ..) ?_
  refine T_leq (fun i1 f1 => ?_)
  have g1 := z_wx f1 (by omega)
  refine T_if1 (by omega) ?_
  refine T_leq (fun p1 e1 => ?_)
  have b1 : -2147483648 ≤ p1 ∧ p1 ≤ 2147483647 := by rw [← e1]; exact z_i32b _
  refine T_leq (fun i2 f2 => ?_)
  have g2 := z_wx f2 (by omega)
  refine T_if1 (by omega) ?_
  refine T_leq (fun p2 e2 => ?_)
  have b2 : -2147483648 ≤ p2 ∧ p2 ≤ 2147483647 := by rw [← e2]; exact z_i32b _
  refine T_useI (L_thick hfu h t6 t7 t8 (by omega) p1 p2 b1 b2) (fun v s1 hq => ?_)
  obtain ⟨x, rfl, ⟨lc, sc⟩, c3, y4, k5⟩ := hq
  refine T_vI ?_
  refine T_leq (fun j1 f => ?_)
  have q9 : i1 = j1 := f1.symm.trans f
  subst q9
  refine T_if1 (by omega) ?_
  refine T_leq (fun p9 e => ?_)
  have q9 : p1 = p9 := e1.symm.trans e
  subst q9
  clear f e
  refine T_leq (fun j2 f => ?_)
  have q9 : i2 = j2 := f2.symm.trans f
  subst q9
  refine T_if1 (by omega) ?_
  refine T_leq (fun p9 e => ?_)
  have q9 : p2 = p9 := e2.symm.trans e
  subst q9
  clear f e
  refine T_if1 (by decide +kernel) ?_
  refine T_useI (M_thick hfu h t6 t7 lc (t7.2.1.cls lc.2.2.2.2) (t7.2.2.1.cls lc.2.2.2.2) p1 p2 b1 b2 sc) (fun v s2 hq => ?_)
  obtain ⟨y, rfl, hq, m3, m12, km2, ym2⟩ := hq
  refine T_vI ?_
  have h2 := hq
  have n6 := t6.step c3 lc.2.2.2.2 m3 m12
  have n7 : y_J7 s2 := ⟨t7.1.step c3 m3, km2, ym2, y4.cls (fun a b q => m3 a b (Or.inl q))⟩
  have n8 : y_J8 (a4 + 6) s2 := t8.step k5 m3
  refine T_of (fL_law_J1338.eq_1 ..) ?_
  refine T_leq (fun z e => ?_)
  exact hr _ _ h2 n6 n7 n8 (z_wx e (by omega))
theorem k_1177 {fu L : Nat} (hfu : 8589934592 ≤ fu) (hL : L ≤ 4000) {xs : Nat → Int32} {s : z_M} {a4 : Int} {r : z_M → Int → z_O} {k : z_M → z_O} {P : z_V → z_M → Prop} (h : y_LX s) (t6 : y_I6 s) (t7 : y_J7 s) (t8 : y_J8 a4 s) (h4 : 0 ≤ a4 ∧ a4 + 6 ≤ L) (hr : ∀ s' v, y_LX s' → y_I6 s' → y_J7 s' → y_J8 (a4 + 6) s' → v = a4 + 6 → z_T (r s' v) P) : z_T (fL_law_J1177 fu L xs s 1 309 7658 a4 r k) P := by
  refine T_of (fL_law_J1177.eq_1 ..) ?_
  refine T_leq (fun i1 f1 => ?_)
  have g1 := z_wx f1 (by omega)
  refine T_if1 (by omega) ?_
  refine T_leq (fun p1 e1 => ?_)
  have b1 : -2147483648 ≤ p1 ∧ p1 ≤ 2147483647 := by rw [← e1]; exact z_i32b _
  refine T_useI (L_pages hfu h t6 t7 t8 (by omega) p1 b1) (fun v s1 hq => ?_)
  obtain ⟨x, rfl, ⟨lc, sc⟩, c3, y4, k5⟩ := hq
  refine T_vI ?_
  refine T_leq (fun j1 f => ?_)
  have q9 : i1 = j1 := f1.symm.trans f
  subst q9
  refine T_if1 (by omega) ?_
  refine T_leq (fun p9 e => ?_)
  have q9 : p1 = p9 := e1.symm.trans e
  subst q9
  clear f e
  refine T_if1 (by decide +kernel) ?_
  refine T_useI (M_pages hfu h t6 t7 lc (t7.2.1.cls lc.2.2.2.2) (t7.2.2.1.cls lc.2.2.2.2) p1 b1 sc) (fun v s2 hq => ?_)
  obtain ⟨y, rfl, hq, m3, m12, km2, ym2⟩ := hq
  refine T_vI ?_
  have h2 := hq
  have n6 := t6.step c3 lc.2.2.2.2 m3 m12
  have n7 : y_J7 s2 := ⟨t7.1.step c3 m3, km2, ym2, y4.cls (fun a b q => m3 a b (Or.inl q))⟩
  have n8 : y_J8 (a4 + 6) s2 := t8.step k5 m3
  refine T_of (fL_law_J1338.eq_1 ..) ?_
  refine T_leq (fun z e => ?_)
  exact hr _ _ h2 n6 n7 n8 (z_wx e (by omega))
theorem k_1205 {fu L : Nat} (hfu : 8589934592 ≤ fu) (hL : L ≤ 4000) {xs : Nat → Int32} {s : z_M} {a4 : Int} {r : z_M → Int → z_O} {k : z_M → z_O} {P : z_V → z_M → Prop} (h : y_LX s) (t6 : y_I6 s) (t7 : y_J7 s) (t8 : y_J8 a4 s) (h4 : 0 ≤ a4 ∧ a4 + 6 ≤ L) (hr : ∀ s' v, y_LX s' → y_I6 s' → y_J7 s' → y_J8 (a4 + 6) s' → v = a4 + 6 → z_T (r s' v) P) : z_T (fL_law_J1205 fu L xs s 1 309 7658 a4 r k) P := by
  refine T_of (fL_law_J1205.eq_1 ..) ?_
  refine T_leq (fun i1 f1 => ?_)
  have g1 := z_wx f1 (by omega)
  refine T_if1 (by omega) ?_
  refine T_leq (fun p1 e1 => ?_)
  have b1 : -2147483648 ≤ p1 ∧ p1 ≤ 2147483647 := by rw [← e1]; exact z_i32b _
  refine T_leq (fun i2 f2 => ?_)
  have g2 := z_wx f2 (by omega)
  refine T_if1 (by omega) ?_
  refine T_leq (fun p2 e2 => ?_)
  have b2 : -2147483648 ≤ p2 ∧ p2 ≤ 2147483647 := by rw [← e2]; exact z_i32b _
  refine T_leq (fun i3 f3 => ?_)
  have g3 := z_wx f3 (by omega)
  refine T_if1 (by omega) ?_
  refine T_leq (fun p3 e3 => ?_)
  have b3 : -2147483648 ≤ p3 ∧ p3 ≤ 2147483647 := by rw [← e3]; exact z_i32b _
  refine T_useI (L_page hfu h t6 t7 t8 (by omega) p1 p2 p3 b1 b2 b3) (fun v s1 hq => ?_)
  obtain ⟨x, rfl, ⟨lc, sc⟩, c3, y4, k5⟩ := hq
  refine T_vI ?_
  refine T_leq (fun j1 f => ?_)
  have q9 : i1 = j1 := f1.symm.trans f
  subst q9
  refine T_if1 (by omega) ?_
  refine T_leq (fun p9 e => ?_)
  have q9 : p1 = p9 := e1.symm.trans e
  subst q9
  clear f e
  refine T_leq (fun j2 f => ?_)
  have q9 : i2 = j2 := f2.symm.trans f
  subst q9
  refine T_if1 (by omega) ?_
  refine T_leq (fun p9 e => ?_)
  have q9 : p2 = p9 := e2.symm.trans e
  subst q9
  clear f e
  refine T_leq (fun j3 f => ?_)
  have q9 : i3 = j3 := f3.symm.trans f
  subst q9
  refine T_if1 (by omega) ?_
  refine T_leq (fun p9 e => ?_)
  have q9 : p3 = p9 := e3.symm.trans e
  subst q9
  clear f e
  refine T_if1 (by decide +kernel) ?_
  refine T_useI (M_page hfu h t6 t7 lc (t7.2.1.cls lc.2.2.2.2) (t7.2.2.1.cls lc.2.2.2.2) p1 p2 p3 b1 b2 b3 sc) (fun v s2 hq => ?_)
  obtain ⟨y, rfl, hq, m3, m12, km2, ym2⟩ := hq
  refine T_vI ?_
  have h2 := hq
  have n6 := t6.step c3 lc.2.2.2.2 m3 m12
  have n7 : y_J7 s2 := ⟨t7.1.step c3 m3, km2, ym2, y4.cls (fun a b q => m3 a b (Or.inl q))⟩
  have n8 : y_J8 (a4 + 6) s2 := t8.step k5 m3
  refine T_of (fL_law_J1338.eq_1 ..) ?_
  refine T_leq (fun z e => ?_)
  exact hr _ _ h2 n6 n7 n8 (z_wx e (by omega))
theorem k_1257 {fu L : Nat} (hfu : 8589934592 ≤ fu) (hL : L ≤ 4000) {xs : Nat → Int32} {s : z_M} {a4 : Int} {r : z_M → Int → z_O} {k : z_M → z_O} {P : z_V → z_M → Prop} (h : y_LX s) (t6 : y_I6 s) (t7 : y_J7 s) (t8 : y_J8 a4 s) (h4 : 0 ≤ a4 ∧ a4 + 6 ≤ L) (hr : ∀ s' v, y_LX s' → y_I6 s' → y_J7 s' → y_J8 (a4 + 6) s' → v = a4 + 6 → z_T (r s' v) P) : z_T (fL_law_J1257 fu L xs s 1 309 7658 a4 r k) P := by
  refine T_of (fL_law_J1257.eq_1 ..) ?_
  refine T_leq (fun i1 f1 => ?_)
  have g1 := z_wx f1 (by omega)
  refine T_if1 (by omega) ?_
  refine T_leq (fun p1 e1 => ?_)
  have b1 : -2147483648 ≤ p1 ∧ p1 ≤ 2147483647 := by rw [← e1]; exact z_i32b _
  refine T_useI (L_narrow hfu h t6 t7 t8 (by omega) p1 b1) (fun v s1 hq => ?_)
  obtain ⟨x, rfl, ⟨lc, sc, vq⟩, c3, y4, k5⟩ := hq
  refine T_vI ?_
  refine T_leq (fun j1 f => ?_)
  have q9 : i1 = j1 := f1.symm.trans f
  subst q9
  refine T_if1 (by omega) ?_
  refine T_leq (fun p9 e => ?_)
  have q9 : p1 = p9 := e1.symm.trans e
  subst q9
  clear f e
  refine T_if1 (by decide +kernel) ?_
  refine T_useI (M_narrow hfu h t6 t7 lc (t7.2.1.cls lc.2.2.2.2) (t7.2.2.1.cls lc.2.2.2.2) p1 b1 sc) (fun v s2 hq => ?_)
  obtain ⟨y, rfl, hq, m3, m12, km2, ym2⟩ := hq
  refine T_vI ?_
  have h2 := hq.1
  have n6 := t6.step c3 lc.2.2.2.2 m3 m12
  have n7 : y_J7 s2 := ⟨t7.1.step c3 m3, km2, ym2, y4.cls (fun a b q => m3 a b (Or.inl q))⟩
  have n8 : y_J8 (a4 + 6) s2 := t8.step k5 m3
  obtain ⟨v0, vq, vx⟩ := vq
  obtain ⟨g7, g8⟩ := y_JRL vq vx hq.2 (m3 7658 0 (by omega)) (fun sr sl z _ ry rm r r2 => q_narrow (h.bt t6 lc ry.1) (h.ok7 t6 t7 ry.1) ry.2.2.2 rm (rm.rbd (h.mo lc) lc.2.2.2.1 (y_LX.g8 t6 t7 lc)) r r2)
  refine T_if1 (by decide +kernel) ?_
  refine T_bI (T_of (fX12_thrown.eq_1 ..) ?_)
  refine T_if1 (by decide +kernel) ?_
  refine T_let x g7 ?_
  refine T_rI ?_
  refine T_if1 rfl ?_
  refine T_ite (fun _ => ?_) (fun hx => ?_)
  · refine T_of (fL_law_J1310.eq_1 ..) ?_
    refine T_of (fL_law_J1338.eq_1 ..) ?_
    refine T_leq (fun z e => ?_)
    exact hr _ _ h2 n6 n7 n8 (z_wx e (by omega))
  · refine T_if1 (by decide +kernel) ?_
    refine T_let y (g8 (by omega)) ?_
    refine T_let 0 (by unfold z_cmp; rw [if_neg (by omega), if_pos rfl]) ?_
    refine T_if1 rfl ?_
    refine T_of (fL_law_J1310.eq_1 ..) ?_
    refine T_of (fL_law_J1338.eq_1 ..) ?_
    refine T_leq (fun z e => ?_)
    exact hr _ _ h2 n6 n7 n8 (z_wx e (by omega))
theorem k_1313 {fu L : Nat} (hfu : 8589934592 ≤ fu) (hL : L ≤ 4000) {xs : Nat → Int32} {s : z_M} {a4 : Int} {r : z_M → Int → z_O} {k : z_M → z_O} {P : z_V → z_M → Prop} (h : y_LX s) (t6 : y_I6 s) (t7 : y_J7 s) (t8 : y_J8 a4 s) (h4 : 0 ≤ a4 ∧ a4 + 6 ≤ L) (hr : ∀ s' v, y_LX s' → y_I6 s' → y_J7 s' → y_J8 (a4 + 6) s' → v = a4 + 6 → z_T (r s' v) P) : z_T (fL_law_J1313 fu L xs s 1 309 7658 a4 r k) P := by
  refine T_of (fL_law_J1313.eq_1 ..) ?_
  refine T_leq (fun i1 f1 => ?_)
  have g1 := z_wx f1 (by omega)
  refine T_if1 (by omega) ?_
  refine T_leq (fun p1 e1 => ?_)
  have b1 : -2147483648 ≤ p1 ∧ p1 ≤ 2147483647 := by rw [← e1]; exact z_i32b _
  refine T_if1 (by decide +kernel) ?_
  refine T_useI (L_status hfu h t6 t7 t8 (by omega) p1 b1) (fun v s1 hq => ?_)
  obtain ⟨x, rfl, ⟨lc, sc⟩, c3, y4, k5⟩ := hq
  refine T_vI ?_
  refine T_leq (fun j1 f => ?_)
  have q9 : i1 = j1 := f1.symm.trans f
  subst q9
  refine T_if1 (by omega) ?_
  refine T_leq (fun p9 e => ?_)
  have q9 : p1 = p9 := e1.symm.trans e
  subst q9
  clear f e
  refine T_if1 (by decide +kernel) ?_
  refine T_useI (M_status hfu h t6 t7 lc (t7.2.1.cls lc.2.2.2.2) (t7.2.2.1.cls lc.2.2.2.2) p1 b1 sc) (fun v s2 hq => ?_)
  obtain ⟨y, rfl, hq, m3, m12, km2, ym2⟩ := hq
  refine T_vI ?_
  have h2 := hq
  have n6 := t6.step c3 lc.2.2.2.2 m3 m12
  have n7 : y_J7 s2 := ⟨t7.1.step c3 m3, km2, ym2, y4.cls (fun a b q => m3 a b (Or.inl q))⟩
  have n8 : y_J8 (a4 + 6) s2 := t8.step k5 m3
  refine T_of (fL_law_J1338.eq_1 ..) ?_
  refine T_leq (fun z e => ?_)
  exact hr _ _ h2 n6 n7 n8 (z_wx e (by omega))
theorem law_go {fu L : Nat} (hfu : 8589934592 ≤ fu) (hL : L ≤ 4000) {xs : Nat → Int32} : ∀ (F : Nat) (s : z_M) (a4 : Int), y_LX s → y_I6 s → y_J7 s → y_J8 a4 s → 0 ≤ a4 ∧ a4 ≤ L → (L : Int) - a4 < 6 * F → z_T (fL_law_L23 fu L xs 1 309 7658 F s a4 z_kr) (fun v _ => v = vI 1) := by
  intro F
  induction F with
  | zero =>
    intro s a4 h t6 t7 t8 h4 hm
    exfalso; omega
  | succ F ih =>
    intro s a4 h t6 t7 t8 h4 hm
    refine T_of (fL_law_L23.eq_2 ..) ?_
    refine T_leq (fun x1 e1 => ?_)
    have w1 := z_wx e1 (by omega)
    refine T_ite (fun hc => ?_) (fun hc => ?_)
    · refine T_of (z_kr.eq_1 ..) ?_
      refine T_if1 (by decide) ?_
      exact T_ret rfl
    · have hr : ∀ s' v, y_LX s' → y_I6 s' → y_J7 s' → y_J8 (a4 + 6) s' → v = a4 + 6 → z_T (fL_law_L23 fu L xs 1 309 7658 F s' v z_kr) (fun v _ => v = vI 1) := fun s' v g1 g2 g7 g8 g3 => ih s' v g1 g2 g7 (by rw [g3]; exact g8) (by omega) (by omega)
      have h6 : 0 ≤ a4 ∧ a4 + 6 ≤ L := by omega
      refine T_if1 (by omega) ?_
      refine T_letg (fun x2 => ?_)
      refine T_letg (fun x3 => ?_)
      refine T_ite (fun _ => k_188 hfu hL h t6 t7 t8 h6 hr) (fun _ => ?_)
      refine T_ite (fun _ => k_261 hfu hL h t6 t7 t8 h6 hr) (fun _ => ?_)
      refine T_ite (fun _ => k_289 hfu hL h t6 t7 t8 h6 hr) (fun _ => ?_)
      refine T_ite (fun _ => k_317 hfu hL h t6 t7 t8 h6 hr) (fun _ => ?_)
      refine T_ite (fun _ => k_330 hfu hL h t6 t7 t8 h6 hr) (fun _ => ?_)
      refine T_ite (fun _ => k_370 hfu hL h t6 t7 t8 h6 hr) (fun _ => ?_)
      refine T_ite (fun _ => k_410 hfu hL h t6 t7 t8 h6 hr) (fun _ => ?_)
      refine T_ite (fun _ => k_423 hfu hL h t6 t7 t8 h6 hr) (fun _ => ?_)
      refine T_ite (fun _ => k_451 hfu hL h t6 t7 t8 h6 hr) (fun _ => ?_)
      refine T_ite (fun _ => k_491 hfu hL h t6 t7 t8 h6 hr) (fun _ => ?_)
      refine T_ite (fun _ => k_531 hfu hL h t6 t7 t8 h6 hr) (fun _ => ?_)
      refine T_ite (fun _ => k_571 hfu hL h t6 t7 t8 h6 hr) (fun _ => ?_)
      refine T_ite (fun _ => k_611 hfu hL h t6 t7 t8 h6 hr) (fun _ => ?_)
      refine T_ite (fun _ => k_675 hfu hL h t6 t7 t8 h6 hr) (fun _ => ?_)
      refine T_ite (fun _ => k_715 hfu hL h t6 t7 t8 h6 hr) (fun _ => ?_)
      refine T_ite (fun _ => k_755 hfu hL h t6 t7 t8 h6 hr) (fun _ => ?_)
      refine T_ite (fun _ => k_783 hfu hL h t6 t7 t8 h6 hr) (fun _ => ?_)
      refine T_ite (fun _ => k_823 hfu hL h t6 t7 t8 h6 hr) (fun _ => ?_)
      refine T_ite (fun _ => k_863 hfu hL h t6 t7 t8 h6 hr) (fun _ => ?_)
      refine T_ite (fun _ => k_891 hfu hL h t6 t7 t8 h6 hr) (fun _ => ?_)
      refine T_ite (fun _ => k_904 hfu hL h t6 t7 t8 h6 hr) (fun _ => ?_)
      refine T_ite (fun _ => k_932 hfu hL h t6 t7 t8 h6 hr) (fun _ => ?_)
      refine T_ite (fun _ => k_945 hfu hL h t6 t7 t8 h6 hr) (fun _ => ?_)
      refine T_ite (fun _ => k_973 hfu hL h t6 t7 t8 h6 hr) (fun _ => ?_)
      refine T_ite (fun _ => k_1001 hfu hL h t6 t7 t8 h6 hr) (fun _ => ?_)
      refine T_ite (fun _ => k_1029 hfu hL h t6 t7 t8 h6 hr) (fun _ => ?_)
      refine T_ite (fun _ => k_1081 hfu hL h t6 t7 t8 h6 hr) (fun _ => ?_)
      refine T_ite (fun _ => k_1109 hfu hL h t6 t7 t8 h6 hr) (fun _ => ?_)
      refine T_ite (fun _ => k_1137 hfu hL h t6 t7 t8 h6 hr) (fun _ => ?_)
      refine T_ite (fun _ => k_1177 hfu hL h t6 t7 t8 h6 hr) (fun _ => ?_)
      refine T_ite (fun _ => k_1205 hfu hL h t6 t7 t8 h6 hr) (fun _ => ?_)
      refine T_ite (fun _ => k_1257 hfu hL h t6 t7 t8 h6 hr) (fun _ => ?_)
      refine T_ite (fun _ => k_1313 hfu hL h t6 t7 t8 h6 hr) (fun _ => ?_)
      refine T_of (fL_law_J1338.eq_1 ..) ?_
      refine T_leq (fun z e => ?_)
      exact hr _ _ h t6 t7 t8.up (z_wx e (by omega))
theorem CI_0 : z_CI (fun _ _ => 0) := fun k j => z_bd0 k j
theorem bq_1_13 : z_bd 1 13 = (-2147483648, 2147483647) := by decide +kernel
theorem bq_3_0 : z_bd 3 0 = (-2147483648, 2147483647) := by decide +kernel
theorem bq_3_1 : z_bd 3 1 = (-2147483648, 2147483647) := by decide +kernel
theorem bq_3_2 : z_bd 3 2 = (-2147483648, 2147483647) := by decide +kernel
theorem bq_3_3 : z_bd 3 3 = (-2147483648, 2147483647) := by decide +kernel
theorem bq_3_4 : z_bd 3 4 = (-2147483648, 2147483647) := by decide +kernel
theorem bq_3_5 : z_bd 3 5 = (-2147483648, 2147483647) := by decide +kernel
theorem bq_3_6 : z_bd 3 6 = (-2147483648, 2147483647) := by decide +kernel
theorem bq_3_7 : z_bd 3 7 = (-2147483648, 2147483647) := by decide +kernel
theorem bq_3_8 : z_bd 3 8 = (-2147483648, 2147483647) := by decide +kernel
theorem bq_309_5 : z_bd 309 5 = (-2147483648, 2147483647) := by decide +kernel
theorem bq_312_0 : z_bd 312 0 = (-2147483648, 2147483647) := by decide +kernel
theorem bq_312_1 : z_bd 312 1 = (-2147483648, 2147483647) := by decide +kernel
theorem bq_312_2 : z_bd 312 2 = (-2147483648, 2147483647) := by decide +kernel
theorem bq_312_3 : z_bd 312 3 = (-2147483648, 2147483647) := by decide +kernel
theorem bq_312_4 : z_bd 312 4 = (-2147483648, 2147483647) := by decide +kernel
theorem bq_312_5 : z_bd 312 5 = (-2147483648, 2147483647) := by decide +kernel
theorem bq_312_6 : z_bd 312 6 = (-2147483648, 2147483647) := by decide +kernel
theorem bq_312_7 : z_bd 312 7 = (-2147483648, 2147483647) := by decide +kernel
theorem bq_312_8 : z_bd 312 8 = (-2147483648, 2147483647) := by decide +kernel
theorem bq_313_0 : z_bd 313 0 = (-2147483648, 2147483647) := by decide +kernel
theorem bq_313_1 : z_bd 313 1 = (-2147483648, 2147483647) := by decide +kernel
theorem bq_313_2 : z_bd 313 2 = (-2147483648, 2147483647) := by decide +kernel
theorem bq_313_3 : z_bd 313 3 = (-2147483648, 2147483647) := by decide +kernel
theorem bq_313_4 : z_bd 313 4 = (-2147483648, 2147483647) := by decide +kernel
theorem bq_313_5 : z_bd 313 5 = (-2147483648, 2147483647) := by decide +kernel
theorem bq_313_6 : z_bd 313 6 = (-2147483648, 2147483647) := by decide +kernel
theorem bq_313_7 : z_bd 313 7 = (-2147483648, 2147483647) := by decide +kernel
theorem bq_313_8 : z_bd 313 8 = (-2147483648, 2147483647) := by decide +kernel
theorem bq_314_0 : z_bd 314 0 = (-2147483648, 2147483647) := by decide +kernel
theorem bq_314_1 : z_bd 314 1 = (-2147483648, 2147483647) := by decide +kernel
theorem bq_314_2 : z_bd 314 2 = (-2147483648, 2147483647) := by decide +kernel
theorem bq_314_3 : z_bd 314 3 = (-2147483648, 2147483647) := by decide +kernel
theorem bq_314_4 : z_bd 314 4 = (-2147483648, 2147483647) := by decide +kernel
theorem bq_314_5 : z_bd 314 5 = (-2147483648, 2147483647) := by decide +kernel
theorem bq_314_6 : z_bd 314 6 = (-2147483648, 2147483647) := by decide +kernel
theorem bq_314_7 : z_bd 314 7 = (-2147483648, 2147483647) := by decide +kernel
theorem bq_314_8 : z_bd 314 8 = (-2147483648, 2147483647) := by decide +kernel
theorem CI_s0 : z_CI z_s0 := (CI_up (CI_up (CI_up (CI_up (CI_up (CI_up (CI_up (CI_up (CI_up (CI_up (CI_up (CI_up (CI_up (CI_up (CI_up (CI_up (CI_up (CI_up (CI_up (CI_up (CI_up (CI_up (CI_up (CI_up (CI_up (CI_up (CI_up (CI_up (CI_up (CI_up (CI_up (CI_up (CI_up (CI_up (CI_up (CI_up (CI_up (CI_up CI_0 bq_1_13 (by decide)) bq_3_0 (by decide)) bq_3_1 (by decide)) bq_3_2 (by decide)) bq_3_3 (by decide)) bq_3_4 (by decide)) bq_3_5 (by decide)) bq_3_6 (by decide)) bq_3_7 (by decide)) bq_3_8 (by decide)) bq_309_5 (by decide)) bq_312_0 (by decide)) bq_312_1 (by decide)) bq_312_2 (by decide)) bq_312_3 (by decide)) bq_312_4 (by decide)) bq_312_5 (by decide)) bq_312_6 (by decide)) bq_312_7 (by decide)) bq_312_8 (by decide)) bq_313_0 (by decide)) bq_313_1 (by decide)) bq_313_2 (by decide)) bq_313_3 (by decide)) bq_313_4 (by decide)) bq_313_5 (by decide)) bq_313_6 (by decide)) bq_313_7 (by decide)) bq_313_8 (by decide)) bq_314_0 (by decide)) bq_314_1 (by decide)) bq_314_2 (by decide)) bq_314_3 (by decide)) bq_314_4 (by decide)) bq_314_5 (by decide)) bq_314_6 (by decide)) bq_314_7 (by decide)) bq_314_8 (by decide))
theorem z_s0_f {a b : Int} (h : a ≠ 1) (h3 : a ≠ 3) (h9 : a ≠ 309) (h12 : a ≠ 312) (h13 : a ≠ 313) (h14 : a ≠ 314) : z_s0 a b = 0 := by
  unfold z_s0 z_sA
  repeat rw [z_up_k (by omega)]
theorem z_s0_q {a b : Int} (h : a ≠ 1 ∧ a ≠ 3 ∧ a ≠ 309 ∧ a ≠ 312 ∧ a ≠ 313 ∧ a ≠ 314) : z_s0 a b = 0 := z_s0_f h.1 h.2.1 h.2.2.1 h.2.2.2.1 h.2.2.2.2.1 h.2.2.2.2.2
theorem XX_s0 : y_XX z_s0 := by
  have e19 : z_s0 309 19 = 0 := by decide +kernel
  have e2 : z_s0 309 2 = 0 := by decide +kernel
  have e12 : z_s0 1 12 = 0 := by decide +kernel
  have e13 : z_s0 1 13 = z_s0 309 5 := by decide +kernel
  have q6 : ∀ b, z_s0 6 b = 0 := fun b => z_s0_q (by decide)
  have q33 : ∀ b, z_s0 33 b = 0 := fun b => z_s0_q (by decide)
  have q316 : ∀ b, z_s0 (316 + 0) b = 0 := fun b => z_s0_q (by decide)
  refine ⟨⟨⟨?_, ?_, ?_, fun i p q => ?_⟩, ?_, ⟨fun i p q => ?_, ?_, fun i j m h1 h2 h3 h4 => ?_, fun i p q => ?_, by rw [q6]; decide, fun i p q => ?_⟩⟩, ⟨?_, ?_, ?_, fun j p q => ?_⟩, ⟨by rw [e12, e2], fun i p q => ?_⟩, e13⟩
  · rw [q6, q316]
  · rw [q6, q316]
  · rw [q6]; decide
  · rw [q316] at q; omega
  · rw [q6, q6]; decide
  · rw [q316] at q; omega
  · unfold y_gt; rw [if_pos (q316 1), q6]
  · rw [q316] at h4; omega
  · rw [q316] at q; omega
  · rw [q316] at q; omega
  · rw [q33]; decide
  · rw [q33, e19]
  · rw [e19]; decide
  · rw [e19] at q; omega
  · rw [e12] at q; omega
theorem LX_s0 : y_LX z_s0 := by
  have e20 : z_s0 309 20 = 0 := by decide +kernel
  have e36 : z_s0 309 36 = 0 := by decide +kernel
  have e16 : z_s0 1 16 = 0 := by decide +kernel
  refine ⟨CI_s0, ⟨⟨⟨z_s0_q (by decide), z_s0_q (by decide)⟩, Or.inl e16⟩, Or.inl e16⟩, ⟨?_, ?_, ?_, y_K.k0 e36⟩, y_PM.z e20 (z_s0_q (by decide)), XX_s0⟩
  · intro t h0 h1
    rw [z_s0_f (a := 316 + t) (b := 1) (by omega) (by omega) (by omega) (by omega) (by omega) (by omega), z_s0_f (a := 316 + t) (b := 0) (by omega) (by omega) (by omega) (by omega) (by omega) (by omega)]
    exact ⟨by omega, fun i a b => by omega⟩
  · exact y_DD.z (z_s0_q (by decide)) (z_s0_q (by decide))
  · show y_Q z_s0 (z_s0 309 20) (z_s0 316 0)
    exact y_Q.z e20 (z_s0_q (by decide))
theorem I6_s0 : y_I6 z_s0 := fun j => by
  refine ⟨?_, rfl, rfl⟩
  by_cases h : 0 ≤ j ∧ j ≤ 8
  · rcases (show j = 0 ∨ j = 1 ∨ j = 2 ∨ j = 3 ∨ j = 4 ∨ j = 5 ∨ j = 6 ∨ j = 7 ∨ j = 8 by omega) with rfl | rfl | rfl | rfl | rfl | rfl | rfl | rfl | rfl <;> decide +kernel
  · unfold z_s0 z_sA
    repeat (first | rw [z_up_k (by omega)] | rw [z_up_j (by omega)])
theorem J7_s0 : y_J7 z_s0 := ⟨fun j h0 h8 => by
  rcases (show j = 0 ∨ j = 1 ∨ j = 2 ∨ j = 3 ∨ j = 4 ∨ j = 5 ∨ j = 6 ∨ j = 7 ∨ j = 8 by omega) with rfl | rfl | rfl | rfl | rfl | rfl | rfl | rfl | rfl <;> exact ⟨by decide, by decide, by decide +kernel, by decide +kernel⟩, y_KM.z (by decide +kernel), y_YM.b0 (by decide +kernel), y_Y4.z (by decide +kernel)⟩
theorem J8_s0 : y_J8 0 z_s0 := by
  have e9 : z_s0 296 9 = 0 := z_s0_q (by decide)
  refine ⟨y_Y5.z (by decide +kernel), ⟨fun x _ _ => by rw [e9, z_s0_q (a := 298) (b := x) (by decide)]; exact Int.le_refl 0, by rw [e9]; exact Int.le_refl 0, z_s0_q (by decide)⟩, by rw [e9]; decide⟩
theorem law_pure (L : Nat) (hL : L ≤ 3072) (xs : Nat → Int32) : ∃ (fu F : Nat) (s' : z_M), F ≤ 513 ∧ fL_law_L23 fu L xs 1 309 7658 F z_s0 0 z_kr = some (vI 1, s') := by
  obtain ⟨v, s, e, rfl⟩ := law_go (fu := 8589934592) (L := L) (Nat.le_refl _) (by omega) (xs := xs) 513 z_s0 0 LX_s0 I6_s0 J7_s0 J8_s0 (by omega) (by omega)
  exact ⟨8589934592, 513, s, Nat.le_refl _, e⟩
