/-! hang: all blocks of a line -/
/-- one block, from the room behind it on -/
theorem e_h87 {P : z_V → z_M → Prop} {fu : Nat} {s : z_M} {o st t ln p f k nx O mA Kn : Int} {r : z_M → Int → Int → z_O} {kk : z_M → Int → z_O} {C1 C2 : Prop} [Decidable C1] [Decidable C2] (ho : y_ob2 o) (hk : 0 ≤ k ∧ k < 200) (hc : s o 9 ≤ 200) (hn : -1 ≤ nx ∧ nx ≤ 1000) (hz : st < k → -1 ≤ s (o + 4) (k - 1) ∧ s (o + 4) (k - 1) ≤ 200) (h0 : 0 ≤ st) (bO : 0 ≤ O ∧ O ≤ 18000) (bA : 0 ≤ mA ∧ mA ≤ 6) (bp : 0 ≤ p ∧ p ≤ 4000000) (hl : 0 ≤ ln ∧ ln ≤ 6)
    (hnx : nx ≤ t → (0 ≤ nx ∧ nx < 200) ∧ s 193 nx = Kn) (hC1 : C1 ↔ (st < k ∧ s (o + 4) (k - 1) + 2 = s (o + 2) k ∧ 0 < s (o + 8) (k - 1))) (hC2 : C2 ↔ (k + 1 < s o 9 ∧ s (o + 2) (k + 1) = nx + 1 ∧ 0 < s (o + 8) (k + 1)))
    (hr : ∀ A B : Int, A = z_min (O / 2) (if 0 < O ∧ C1 then mA / 2 else mA) → B = z_min (O - O / 2) (if 0 < O ∧ C2 then (if nx ≤ t then y_rm Kn ln 0 else 0) / 2 else (if nx ≤ t then y_rm Kn ln 0 else 0)) → z_T (r (z_up (z_up s (o + 10) k A) (o + 12) k B) (p + (O - A - B)) (k + 1)) P) :
    z_T (fX0_hang_J87 fu s o st t ln p f k nx O mA r kk) P := by
  obtain ⟨o0, o1, o2, o3, o4, o5, o6, o7, o8, o9⟩ := v_o ho
  have rb2 := y_rm_b (K := Kn) (ah := 0) hl
  have key : ∀ mB : Int, mB = (if nx ≤ t then y_rm Kn ln 0 else 0) → z_T (fX0_hang_J117 fu s o st t ln p f k nx O mA mB r kk) P := fun mB eB => by
    have mBb : 0 ≤ mB ∧ mB ≤ 6 := by
      rw [eB]
      by_cases q : nx ≤ t
      · rw [if_pos q]; exact rb2
      · rw [if_neg q]; decide
    refine e_h117 ho hk hz h0 bA ?_
    refine e_h175 ho hk hc hn mBb ?_
    refine e_h229 ho hk bO ?_ ?_ bp ?_
    · split
      · omega
      · exact bA
    · split
      · omega
      · exact mBb
    · refine hr _ _ ?_ ?_
      · by_cases q : 0 < O ∧ C1
        · rw [if_pos q, if_pos ⟨q.1, hC1.mp q.2⟩]
        · rw [if_neg q, if_neg (fun w => q ⟨w.1, hC1.mpr w.2⟩)]
      · rw [← eB]
        by_cases q : 0 < O ∧ C2
        · rw [if_pos q, if_pos ⟨q.1, hC2.mp q.2⟩]
        · rw [if_neg q, if_neg (fun w => q ⟨w.1, hC2.mpr w.2⟩)]
  refine T_of (fX0_hang_J87.eq_1 ..) ?_
  refine T_ite (fun q => key 0 (by rw [if_neg (by omega)])) (fun q => ?_)
  obtain ⟨n2, eK⟩ := hnx (by omega)
  refine T_if1 o0 ?_
  refine T_let 191 o1 ?_
  refine T_if1 v_ob191 ?_
  refine T_let 192 v_g2 ?_
  refine T_if1 v_rw192.1 ?_
  refine T_getX v_k192 n2 ?_
  rw [eK]
  exact T_bI (T_of e_room (T_rI (key _ (by rw [if_pos (by omega)]))))
/-- how much a block hangs over, both ways -/
theorem y_GI.ab {D s : z_M} {n o A B ln c0 c k : Int} (g : y_GI D s o (y_fr D A B) (y_to D A B) c0 c) (d : y_DF D n) (hA : 0 ≤ A ∧ A ≤ B + 1) (hB : B < n) (hn : n ≤ 200) (hl : 0 ≤ ln ∧ ln ≤ 6) (hk : c0 ≤ k ∧ k < c) : ∀ A' B' : Int,
    A' = z_min (s (o + 8) k / 2) (if 0 < s (o + 8) k ∧ (c0 < k ∧ s (o + 4) (k - 1) + 2 = s (o + 2) k ∧ 0 < s (o + 8) (k - 1)) then (if y_fr D A B < s (o + 2) k then y_rm (D 0 (s (o + 2) k - 1)) ln 1 else 0) / 2 else (if y_fr D A B < s (o + 2) k then y_rm (D 0 (s (o + 2) k - 1)) ln 1 else 0)) →
    B' = z_min (s (o + 8) k - s (o + 8) k / 2) (if 0 < s (o + 8) k ∧ (k + 1 < c ∧ s (o + 2) (k + 1) = s (o + 4) k + 1 + 1 ∧ 0 < s (o + 8) (k + 1)) then (if s (o + 4) k + 1 ≤ y_to D A B then y_rm (D 0 (s (o + 4) k + 1)) ln 0 else 0) / 2 else (if s (o + 4) k + 1 ≤ y_to D A B then y_rm (D 0 (s (o + 4) k + 1)) ln 0 else 0)) →
    (A' = s (o + 8) k / 2 - y_pA D A B ln (s (o + 2) k) ∧ B' = s (o + 8) k - s (o + 8) k / 2 - y_pB D A B ln (s (o + 4) k)) ∧ (0 ≤ A' ∧ A' ≤ s (o + 8) k / 2) ∧ 0 ≤ B' ∧ B' ≤ s (o + 8) k - s (o + 8) k / 2 := by
  intro A' B' eA eB
  obtain ⟨bl0, br⟩ := g.2.1 k hk.1 hk.2
  have bl := bl0.up hA.2
  have bo := y_BO_b d bl hA.1 hB hn
  have eO := br.2.2.2.2.2
  have pv := g.prev hA.2 hk
  have nx := g.next d hA.1 hB hn hA.2 hk
  have a1 := y_ahead (ln := ln) d bl hA.1 hB hn bl0.1 (Int.le_trans bl0.2.1 bl0.2.2.1) hl (C := c0 < k ∧ s (o + 4) (k - 1) + 2 = s (o + 2) k ∧ 0 < s (o + 8) (k - 1)) (fun _ => pv)
  have a2 := y_behind (ln := ln) d bl hA.1 hB hn bl0.1 bl0.2.2.1 hl (C := k + 1 < c ∧ s (o + 2) (k + 1) = s (o + 4) k + 1 + 1 ∧ 0 < s (o + 8) (k + 1)) (fun _ => nx)
  rw [← eO] at a1 a2 bo
  have e1 := eA.trans a1
  have e2 := eB.trans a2
  refine ⟨⟨e1, e2⟩, ?_, ?_⟩
  · have rb := y_rm_b (K := D 0 (s (o + 2) k - 1)) (ah := 1) hl
    have m0 : 0 ≤ (if 0 < s (o + 8) k ∧ (c0 < k ∧ s (o + 4) (k - 1) + 2 = s (o + 2) k ∧ 0 < s (o + 8) (k - 1)) then (if y_fr D A B < s (o + 2) k then y_rm (D 0 (s (o + 2) k - 1)) ln 1 else 0) / 2 else (if y_fr D A B < s (o + 2) k then y_rm (D 0 (s (o + 2) k - 1)) ln 1 else 0)) := by
      clear eA eB a1 a2 e1 e2 pv nx
      have m1 : 0 ≤ (if y_fr D A B < s (o + 2) k then y_rm (D 0 (s (o + 2) k - 1)) ln 1 else 0) := by
        split
        · exact rb.1
        · decide
      split
      · exact Int.ediv_nonneg m1 (by decide)
      · exact m1
    rw [eA]
    generalize (if 0 < s (o + 8) k ∧ (c0 < k ∧ s (o + 4) (k - 1) + 2 = s (o + 2) k ∧ 0 < s (o + 8) (k - 1)) then (if y_fr D A B < s (o + 2) k then y_rm (D 0 (s (o + 2) k - 1)) ln 1 else 0) / 2 else (if y_fr D A B < s (o + 2) k then y_rm (D 0 (s (o + 2) k - 1)) ln 1 else 0)) = M at m0 ⊢
    have m := z_minb (s (o + 8) k / 2) M
    clear eA eB a1 a2 e1 e2 pv nx bl bl0 br
    omega
  · have rb := y_rm_b (K := D 0 (s (o + 4) k + 1)) (ah := 0) hl
    have m0 : 0 ≤ (if 0 < s (o + 8) k ∧ (k + 1 < c ∧ s (o + 2) (k + 1) = s (o + 4) k + 1 + 1 ∧ 0 < s (o + 8) (k + 1)) then (if s (o + 4) k + 1 ≤ y_to D A B then y_rm (D 0 (s (o + 4) k + 1)) ln 0 else 0) / 2 else (if s (o + 4) k + 1 ≤ y_to D A B then y_rm (D 0 (s (o + 4) k + 1)) ln 0 else 0)) := by
      clear eA eB a1 a2 e1 e2 pv nx
      have m1 : 0 ≤ (if s (o + 4) k + 1 ≤ y_to D A B then y_rm (D 0 (s (o + 4) k + 1)) ln 0 else 0) := by
        split
        · exact rb.1
        · decide
      split
      · exact Int.ediv_nonneg m1 (by decide)
      · exact m1
    rw [eB]
    generalize (if 0 < s (o + 8) k ∧ (k + 1 < c ∧ s (o + 2) (k + 1) = s (o + 4) k + 1 + 1 ∧ 0 < s (o + 8) (k + 1)) then (if s (o + 4) k + 1 ≤ y_to D A B then y_rm (D 0 (s (o + 4) k + 1)) ln 0 else 0) / 2 else (if s (o + 4) k + 1 ≤ y_to D A B then y_rm (D 0 (s (o + 4) k + 1)) ln 0 else 0)) = M at m0 ⊢
    have m := z_minb (s (o + 8) k - s (o + 8) k / 2) M
    clear eA eB a1 a2 e1 e2 pv nx bl bl0 br
    omega
theorem e_hangL {fu : Nat} {D : z_M} {o A B ln c0 c : Int} {s0 : z_M} {kk : z_M → Int → z_O} {P : z_V → z_M → Prop} (ho : y_ob2 o) (hu : y_CU2 D s0) (hA : 0 ≤ A ∧ A ≤ B + 1) (hB : B < s0 191 16) (h0 : 0 ≤ c0) (hl : 0 ≤ ln ∧ ln ≤ 6) (hc : c ≤ 200) (hc9 : s0 o 9 = c) (g : y_GI D s0 o (y_fr D A B) (y_to D A B) c0 c)
    (hk : ∀ s' : z_M, y_HB D s' o A B ln c0 c → (∀ x b : Int, ¬ ((x = o + 10 ∨ x = o + 12) ∧ c0 ≤ b) → s' x b = s0 x b) → z_T (kk s' (y_pd D A B ln (B + 1))) P) :
    ∀ (m F : Nat) (s : z_M) (p k x : Int), (m : Int) = c - k → m < F → c0 ≤ k → (∀ x b : Int, ¬ ((x = o + 10 ∨ x = o + 12) ∧ c0 ≤ b) → s x b = s0 x b) → y_HB D s o A B ln c0 k → p = y_pd D A B ln x → A ≤ x → (k = c0 → x = A) → (c0 < k → x = s0 (o + 4) (k - 1) + 1) → (0 ≤ p ∧ p ≤ 20000 * (k - c0)) → z_T (fX0_hang_L9 fu o c0 (y_to D A B) ln (y_fr D A B) F s p k kk) P := by
  have oo : o = 223 ∨ o = 279 := ho
  obtain ⟨o0, o1, o2, o3, o4, o5, o6, o7, o8, o9⟩ := v_o ho
  have ft := y_ft (D := D) hA.2
  have n2 := hu.1.2
  have hD := hu.2.2.2.2
  intro m
  induction m with
  | zero =>
    intro F s p k x h1 hF h3 f hb hp hx x0 x1 pb
    obtain ⟨F, rfl⟩ : ∃ F2, F = F2 + 1 := ⟨F - 1, by omega⟩
    have ek : k = c := by omega
    subst ek
    refine T_of (fX0_hang_L9.eq_2 ..) ?_
    refine T_if1 o0 ?_
    refine T_let k ((f _ _ (by omega)).trans hc9) ?_
    refine T_if1 (Int.le_refl _) ?_
    have e : p = y_pd D A B ln (B + 1) := by
      rw [hp]
      by_cases z : c0 < k
      · have bl := (g.2.1 (k - 1) (by omega) (by omega)).1.up hA.2
        have := bl.2.2.1
        refine (y_pd_n hx (by rw [x1 z]; omega) (fun i q r => ?_)).symm
        rw [x1 z] at q
        by_cases w : i ≤ y_to D A B
        · exact g.2.2.2.1 z i (by omega) w
        · rw [ft.2.2.2.1 i (by omega) (by omega)]; decide
      · refine (y_pd_n hx (by rw [x0 (by omega)]; exact hA.2) (fun i q r => ?_)).symm
        rw [x0 (by omega)] at q
        by_cases w0 : i < y_fr D A B
        · rw [ft.2.2.1 i q w0]; decide
        · by_cases w : i ≤ y_to D A B
          · exact g.2.2.2.2 i (by omega) (by rw [if_neg z]; exact w)
          · rw [ft.2.2.2.1 i (by omega) (by omega)]; decide
    rw [e]
    exact hk s hb f
  | succ m ih =>
    intro F s p k x h1 hF h3 f hb hp hx x0 x1 pb
    obtain ⟨F, rfl⟩ : ∃ F2, F = F2 + 1 := ⟨F - 1, by omega⟩
    have kc : c0 ≤ k ∧ k < c := ⟨h3, by omega⟩
    have hk2 : 0 ≤ k ∧ k < 200 := by omega
    have f8 : ∀ y b : Int, y ≠ o + 10 → y ≠ o + 12 → s y b = s0 y b := fun y b q q2 => f y b (fun w => w.1.elim q q2)
    have flo : ∀ y b : Int, y ≤ 222 → s y b = s0 y b := fun y b q => f8 y b (by omega) (by omega)
    obtain ⟨bl0, br⟩ := g.2.1 k h3 kc.2
    have bl := bl0.up hA.2
    have bo := y_BO_b hD bl hA.1 hB n2
    have ab := g.ab (ln := ln) hD hA hB n2 hl kc
    have ep := y_pAB_b (ln := ln) hD hA.1 hB n2 (s0 (o + 2) k) (s0 (o + 4) k) bl
    have eF : s (o + 2) k = s0 (o + 2) k := f8 _ _ (by omega) (by omega)
    have eZ : s (o + 4) k = s0 (o + 4) k := f8 _ _ (by omega) (by omega)
    have eO : s (o + 8) k = s0 (o + 8) k := f8 _ _ (by omega) (by omega)
    have e9 : s o 9 = c := (f8 _ _ (by omega) (by omega)).trans hc9
    have eP2 : s (o + 2) (k + 1) = s0 (o + 2) (k + 1) := f8 _ _ (by omega) (by omega)
    have eP8 : s (o + 8) (k + 1) = s0 (o + 8) (k + 1) := f8 _ _ (by omega) (by omega)
    have eM4 : s (o + 4) (k - 1) = s0 (o + 4) (k - 1) := f8 _ _ (by omega) (by omega)
    have eM8 : s (o + 8) (k - 1) = s0 (o + 8) (k - 1) := f8 _ _ (by omega) (by omega)
    rw [← br.2.2.2.2.2] at bo
    have b1 := bl0.1
    have b2 := bl0.2.1
    have b3 := bl0.2.2.1
    have b4 := bl.1
    have b5 := bl.2.2.1
    have cu : y_CU2 D s := hu.fr (flo _ _ (by decide)) (flo _ _ (by decide)) (fun a b p q => flo _ _ (by omega))
    have en : s 191 16 = s0 191 16 := flo _ _ (by decide)
    have hz : c0 < k → -1 ≤ s (o + 4) (k - 1) ∧ s (o + 4) (k - 1) ≤ 200 := fun q => by
      rw [eM4]
      have w := (g.2.1 (k - 1) (by omega) (by omega)).1
      have w1 := w.1
      have w2 := w.2.1
      have w3 := w.2.2.1
      clear ab ep bl bl0 br x0 x1 hp eF eZ eO eP2 eP8 eM4 eM8
      omega
    have hcx : x ≤ s0 (o + 2) k ∧ y_pd D A B ln (s0 (o + 2) k) = y_pd D A B ln x := by
      by_cases z : c0 < k
      · have l := g.2.2.1 (k - 1) (by omega) (by omega)
        rw [show k - 1 + 1 = k by omega] at l
        rw [x1 z] at hx ⊢
        exact ⟨by have := l.1; omega, y_pd_n hx (by have := l.1; omega) (fun i q r => l.2 i (by omega) r)⟩
      · rw [x0 (by omega)] at hx ⊢
        have e0 : c0 = k := by omega
        refine ⟨b4, y_pd_n hx b4 (fun i q r => ?_)⟩
        by_cases w0 : i < y_fr D A B
        · rw [ft.2.2.1 i q w0]; decide
        · refine g.2.2.2.2 i (by omega) ?_
          rw [if_pos (by omega), e0]; exact r
    clear x0 x1
    have fin : ∀ A' B' : Int, A' = z_min (s0 (o + 8) k / 2) (if 0 < s0 (o + 8) k ∧ (c0 < k ∧ s0 (o + 4) (k - 1) + 2 = s0 (o + 2) k ∧ 0 < s0 (o + 8) (k - 1)) then (if y_fr D A B < s0 (o + 2) k then y_rm (D 0 (s0 (o + 2) k - 1)) ln 1 else 0) / 2 else (if y_fr D A B < s0 (o + 2) k then y_rm (D 0 (s0 (o + 2) k - 1)) ln 1 else 0)) →
        B' = z_min (s0 (o + 8) k - s0 (o + 8) k / 2) (if 0 < s0 (o + 8) k ∧ (k + 1 < c ∧ s0 (o + 2) (k + 1) = s0 (o + 4) k + 1 + 1 ∧ 0 < s0 (o + 8) (k + 1)) then (if s0 (o + 4) k + 1 ≤ y_to D A B then y_rm (D 0 (s0 (o + 4) k + 1)) ln 0 else 0) / 2 else (if s0 (o + 4) k + 1 ≤ y_to D A B then y_rm (D 0 (s0 (o + 4) k + 1)) ln 0 else 0)) →
        z_T (fX0_hang_L9 fu o c0 (y_to D A B) ln (y_fr D A B) F (z_up (z_up s (o + 10) k A') (o + 12) k B') (p + (s0 (o + 8) k - A' - B')) (k + 1) kk) P := fun A' B' eA eB => by
      obtain ⟨⟨e1, e2⟩, bA, bB⟩ := ab A' B' eA eB
      clear eA eB ab hz
      have ff : ∀ y b : Int, ¬ ((y = o + 10 ∨ y = o + 12) ∧ b = k) → z_up (z_up s (o + 10) k A') (o + 12) k B' y b = s y b := fun y b q => by
        rw [z_up_k2 (fun w => q ⟨Or.inr w.1, w.2⟩), z_up_k2 (fun w => q ⟨Or.inl w.1, w.2⟩)]
      have gA : z_up (z_up s (o + 10) k A') (o + 12) k B' (o + 10) k = A' := by rw [z_up_k (by omega), z_up_s]
      have gB : z_up (z_up s (o + 10) k A') (o + 12) k B' (o + 12) k = B' := z_up_s
      generalize z_up (z_up s (o + 10) k A') (o + 12) k B' = s' at ff gA gB ⊢
      refine ih F s' _ (k + 1) (s0 (o + 4) k + 1) (by omega) (by omega) (by omega) (fun y b q => (ff y b (fun w => q ⟨w.1, by have := w.2; omega⟩)).trans (f y b q)) (fun j q r => ?_) ?_ (by omega) (fun q => by omega) (fun _ => by rw [show k + 1 - 1 = k by omega]) ?_
      · have n2' : ∀ b : Int, s' (o + 2) b = s (o + 2) b := fun b => ff _ _ (fun w => by have w1 := w.1; omega)
        have n4' : ∀ b : Int, s' (o + 4) b = s (o + 4) b := fun b => ff _ _ (fun w => by have w1 := w.1; omega)
        have n8' : ∀ b : Int, s' (o + 8) b = s (o + 8) b := fun b => ff _ _ (fun w => by have w1 := w.1; omega)
        by_cases z : j = k
        · subst z
          rw [gA, gB, n2', n4', n8', eF, eZ, eO]
          exact ⟨e1, e2⟩
        · rw [ff (o + 10) j (fun w => z w.2), ff (o + 12) j (fun w => z w.2), n2', n4', n8']
          exact hb j q (by omega)
      · rw [ep, hcx.2, ← hp, e1, e2]
        clear ep e1 e2 eF eZ eO eP2 eP8 eM4 eM8 gA gB
        omega
      · clear ep e1 e2 eF eZ eO eP2 eP8 eM4 eM8 gA gB
        omega
    have rest : z_T (fX0_hang_J87 fu s o c0 (y_to D A B) ln p (y_fr D A B) k (s0 (o + 4) k + 1) (s0 (o + 8) k) (if y_fr D A B < s0 (o + 2) k then y_rm (D 0 (s0 (o + 2) k - 1)) ln 1 else 0) (fun w v5 v7 => fX0_hang_L9 fu o c0 (y_to D A B) ln (y_fr D A B) F w v5 v7 kk) kk) P := by
      refine e_h87 (Kn := D 0 (s0 (o + 4) k + 1)) (C1 := c0 < k ∧ s0 (o + 4) (k - 1) + 2 = s0 (o + 2) k ∧ 0 < s0 (o + 8) (k - 1)) (C2 := k + 1 < c ∧ s0 (o + 2) (k + 1) = s0 (o + 4) k + 1 + 1 ∧ 0 < s0 (o + 8) (k + 1)) ho hk2 (by rw [e9]; exact hc) (by clear ab ep fin; omega) hz h0 (by clear ab ep fin; omega) ?_ (by clear ab ep fin; omega) hl (fun q => ?_) ?_ ?_ fin
      · have rb := y_rm_b (K := D 0 (s0 (o + 2) k - 1)) (ah := 1) hl
        by_cases q : y_fr D A B < s0 (o + 2) k
        · rw [if_pos q]; exact rb
        · rw [if_neg q]; decide
      · clear ab ep fin hz hcx
        have q1 : 0 ≤ s0 (o + 4) k + 1 ∧ s0 (o + 4) k + 1 < s0 191 16 := by omega
        exact ⟨by omega, (cu.2.2.1 (s0 (o + 4) k + 1) q1.1 (by rw [en]; exact q1.2)).1⟩
      · rw [eM4, eF, eM8]
      · rw [e9, eP2, eP8]
    clear ab ep fin hz hcx
    refine T_of (fX0_hang_L9.eq_2 ..) ?_
    refine T_if1 o0 ?_
    refine T_let c e9 ?_
    refine T_if0 (by omega) ?_
    refine T_if1 o0 ?_
    refine T_let (o + 3) o3 ?_
    refine T_if1 (v_o3 ho).1.1 ?_
    refine T_getX (v_o3 ho) hk2 ?_
    rw [eZ]
    refine T_let (s0 (o + 4) k + 1) (v_wid (by omega)) ?_
    refine T_if1 o0 ?_
    refine T_let (o + 7) o5 ?_
    refine T_if1 (v_o7 ho).1.1 ?_
    refine T_getX (v_o7 ho) hk2 ?_
    rw [eO]
    refine T_if1 o0 ?_
    refine T_let (o + 1) o2 ?_
    refine T_if1 (v_o1 ho).1.1 ?_
    refine T_getX (v_o1 ho) hk2 ?_
    rw [eF]
    refine T_ite (fun q => ?_) (fun q => ?_)
    · rw [if_neg (show ¬ y_fr D A B < s0 (o + 2) k by omega)] at rest
      exact rest
    · rw [if_pos (show y_fr D A B < s0 (o + 2) k by omega)] at rest
      have q1 : 0 ≤ s0 (o + 2) k - 1 ∧ s0 (o + 2) k - 1 < s0 191 16 := by omega
      refine T_if1 o0 ?_
      refine T_let 191 o1 ?_
      refine T_if1 v_ob191 ?_
      refine T_let 192 v_g2 ?_
      refine T_if1 o0 ?_
      refine T_let (o + 1) o2 ?_
      refine T_if1 (v_o1 ho).1.1 ?_
      refine T_getX (v_o1 ho) hk2 ?_
      rw [eF]
      refine T_let (s0 (o + 2) k - 1) (v_wid (by omega)) ?_
      refine T_if1 v_rw192.1 ?_
      refine T_getX v_k192 ⟨by omega, by omega⟩ ?_
      rw [(cu.2.2.1 (s0 (o + 2) k - 1) q1.1 (by rw [en]; exact q1.2)).1]
      exact T_bI (T_of e_room (T_rI rest))
