/-! gather: rules with states of their own; a new block; the loop -/
section TG
variable {P : z_V → z_M → Prop} {fu : Nat} {s : z_M} {k c i n v j x : Int}
theorem T_upG {f : z_M → z_O} (h : ∀ s' : z_M, s' k j = x → (∀ a b : Int, ¬ (a = k ∧ b = j) → s' a b = s a b) → z_T (f s') P) : z_T (z_let (z_up s k j x) f) P := h _ z_up_s (fun _ _ q => z_up_k2 q)
theorem T_putG {f : z_M → z_O} (hr : z_rw k ∧ z_gr k 0 = c ∧ z_ln k = n) (h : 0 ≤ i ∧ i < n) (kk : ∀ s' : z_M, s' c i = v → (∀ a b : Int, ¬ (a = c ∧ b = i) → s' a b = s a b) → z_T (f s') P) : z_T (z_bN (fX7_put fu s k i v) f) P := T_putX hr h (kk _ z_up_s (fun _ _ q => z_up_k2 q))
end TG
theorem y_ones {f : Int → Int} {i : Int} : y_sum f i (i - i + 1).toNat = f i := by
  rw [show (i - i + 1).toNat = 0 + 1 by omega, y_sum_s]
  show 0 + f (i + ((0 : Nat) : Int)) = f i
  rw [show i + ((0 : Nat) : Int) = i by omega, Int.zero_add]
theorem y_sum_more {h : Int → Int} {f z i : Int} (e : i = z + 1) (hf : f ≤ z) : y_sum h f (i - f + 1).toNat = y_sum h f (z - f + 1).toNat + h i := by
  rw [show (i - f + 1).toNat = (z - f + 1).toNat + 1 by omega, y_sum_s, show f + (((z - f + 1).toNat : Nat) : Int) = i by omega]
/-- a new block's rows -/
theorem e_ga58 {fu : Nat} {D s : z_M} {o f t i c : Int} {r : z_M → Int → z_O} {k : z_M → z_O} {P : z_V → z_M → Prop} (ho : y_ob2 o) (hu : y_CU2 D s) (hi : 0 ≤ i ∧ i < s 191 16) (k7 : D 0 i = 7) (hc : s o 9 = c) (h1 : 0 ≤ c ∧ c < 200)
    (hk : ∀ s' : z_M, y_BR D s' o c i i → s' o 9 = c + 1 → (∀ a b : Int, ¬ (y_gaw o a ∧ b = c) → ¬ (a = o ∧ b = 9) → s' a b = s a b) → z_T (r s' (i + 1)) P) :
    z_T (fX0_gather_J58 fu s o f t i r k) P := by
  obtain ⟨o0, o1, o2, o3, o4, o5, o6, o7, o8, o9⟩ := v_o ho
  refine T_of (fX0_gather_J58.eq_1 ..) ?_
  refine T_if1 o0 ?_
  refine T_let (o + 1) o2 ?_
  refine T_if1 o0 ?_
  refine T_let c hc ?_
  refine T_if1 (v_o1 ho).1.1 ?_
  refine T_putG (v_o1 ho) h1 (fun s1 a1 f1 => ?_)
  have c1 : s1 o 9 = c := (f1 o 9 (by omega)).trans hc
  refine T_if1 o0 ?_
  refine T_let (o + 5) o4 ?_
  refine T_if1 o0 ?_
  refine T_let c c1 ?_
  refine T_if1 (v_o5 ho).1.1 ?_
  refine T_putG (v_o5 ho) h1 (fun s2 a2 f2 => ?_)
  have c2 : s2 o 9 = c := (f2 o 9 (by omega)).trans c1
  refine T_if1 o0 ?_
  refine T_let (o + 13) o8 ?_
  refine T_if1 o0 ?_
  refine T_let c c2 ?_
  refine T_if1 (v_o13 ho).1.1 ?_
  refine T_putG (v_o13 ho) h1 (fun s3 a3 f3 => ?_)
  have c3 : s3 o 9 = c := (f3 o 9 (by omega)).trans c2
  refine T_if1 o0 ?_
  refine T_let (o + 15) o9 ?_
  refine T_if1 o0 ?_
  refine T_let c c3 ?_
  refine T_if1 (v_o15 ho).1.1 ?_
  refine T_putG (v_o15 ho) h1 (fun s4 a4 f4 => ?_)
  have c4 : s4 o 9 = c := (f4 o 9 (by omega)).trans c3
  refine T_if1 o0 ?_
  refine T_let c c4 ?_
  refine T_let (c + 1) (v_wid (by omega)) ?_
  refine T_if1 o0 ?_
  refine T_upG (fun s5 e9 f5 => ?_)
  have e2 : s5 (o + 2) c = i := (f5 _ _ (by omega)).trans ((f4 _ _ (by omega)).trans ((f3 _ _ (by omega)).trans ((f2 _ _ (by omega)).trans a1)))
  have e6 : s5 (o + 6) c = 0 := (f5 _ _ (by omega)).trans ((f4 _ _ (by omega)).trans ((f3 _ _ (by omega)).trans a2))
  have e14 : s5 (o + 14) c = 0 := (f5 _ _ (by omega)).trans ((f4 _ _ (by omega)).trans a3)
  have e16 : s5 (o + 16) c = 0 := (f5 _ _ (by omega)).trans a4
  have ef : ∀ a b : Int, ¬ (y_gaw o a ∧ b = c) → ¬ (a = o ∧ b = 9) → s5 a b = s a b := fun a b q q2 =>
    (f5 a b q2).trans ((f4 a b (fun w => q ⟨Or.inr (Or.inr (Or.inr (Or.inr (Or.inr w.1)))), w.2⟩)).trans ((f3 a b (fun w => q ⟨Or.inr (Or.inr (Or.inr (Or.inr (Or.inl w.1)))), w.2⟩)).trans ((f2 a b (fun w => q ⟨Or.inr (Or.inr (Or.inl w.1)), w.2⟩)).trans (f1 a b (fun w => q ⟨Or.inl w.1, w.2⟩)))))
  clear f1 f2 f3 f4 f5 a1 a2 a3 a4 c1 c2 c3 c4 o0 o1 o2 o3 o4 o5 o6 o7 o8 o9
  have oo : o = 223 ∨ o = 279 := ho
  have en : s5 191 16 = s 191 16 := ef _ _ (by omega) (by omega)
  have hu5 : y_CU2 D s5 := hu.fr en (ef _ _ (by omega) (by omega)) (fun a b p q => ef _ _ (by omega) (by omega))
  have ec : c + 1 - 1 = c := by omega
  refine e_ga116 (D := D) (c := c + 1) ho hu5 (by rw [en]; exact hi) k7 e9 (by omega) ?_ ?_ ?_ (fun s' g4 g6 g14 g16 g8 gf => ?_)
  · rw [ec, e6]; decide
  · rw [ec, e14]; decide
  · rw [ec, e16]; decide
  · rw [ec] at g4 g6 g14 g16 g8
    have gg : ∀ a b : Int, ¬ (y_gaw o a ∧ b = c) → s' a b = s5 a b := fun a b q => gf a b (fun w => q ⟨Or.inr w.1, by have := w.2; omega⟩)
    have h9 : s' o 9 = c + 1 := (gg o 9 (by omega)).trans e9
    have h2 : s' (o + 2) c = i := (gf (o + 2) c (by omega)).trans e2
    refine hk s' ⟨h2, g4, ?_, ?_, ?_, ?_⟩ h9 (fun a b q q2 => (gg a b q).trans (ef a b q q2))
    · rw [g6, e6, y_ones, Int.zero_add]
    · rw [g14, e14, y_ones, Int.zero_add]
    · rw [g16, e16, y_ones, Int.zero_add]
    · rw [g8, e14, e16, e6]
      unfold y_BO
      rw [y_ones, y_ones, y_ones, Int.zero_add, Int.zero_add, Int.zero_add]
theorem y_BR.b {D s : z_M} {n o k f z : Int} (h : y_BR D s o k f z) (d : y_DF D n) (h0 : 0 ≤ f) (h1 : z < n) (hn : n ≤ 200) (h2 : f ≤ z) : (0 ≤ s (o + 6) k ∧ s (o + 6) k ≤ 480000) ∧ (0 ≤ s (o + 14) k ∧ s (o + 14) k ≤ 3000) ∧ (0 ≤ s (o + 16) k ∧ s (o + 16) k ≤ 3000) := by
  obtain ⟨_, _, r6, r14, r16, _⟩ := h
  have q : ∀ j : Int, f ≤ j → j < f + ((z - f + 1).toNat : Nat) → 0 ≤ j ∧ j < n := fun j p r => ⟨by omega, by omega⟩
  have s1 := y_sum_r (f := D 1) (a := f) (m := 2400) (z - f + 1).toNat (fun j p r => (d j (q j p r).1 (q j p r).2).2.1)
  have s3 := y_sum_r (f := D 3) (a := f) (m := 15) (z - f + 1).toNat (fun j p r => (d j (q j p r).1 (q j p r).2).2.2.2.2.1)
  have s4 := y_sum_r (f := D 4) (a := f) (m := 15) (z - f + 1).toNat (fun j p r => (d j (q j p r).1 (q j p r).2).2.2.2.2.2)
  have hm : ((z - f + 1).toNat : Int) ≤ 200 := by omega
  rw [r6, r14, r16]
  generalize y_sum (D 1) f (z - f + 1).toNat = A at s1 ⊢
  generalize y_sum (D 3) f (z - f + 1).toNat = B at s3 ⊢
  generalize y_sum (D 4) f (z - f + 1).toNat = C at s4 ⊢
  generalize ((z - f + 1).toNat : Int) = N at s1 s3 s4 hm
  clear r6 r14 r16 q d
  omega
theorem y_o24 {o : Int} : ¬ (o + 2 = o + 4 ∨ o + 2 = o + 6 ∨ o + 2 = o + 8 ∨ o + 2 = o + 14 ∨ o + 2 = o + 16) := by omega
/-- the last block goes on by one base -/
theorem y_GI.on {D s s' : z_M} {o a b i c0 c : Int} (g : y_GI D s o a b c0 c) (e : i = b + 1) (ct : y_ct D a i) (hcc : c0 < c) (l : s (o + 4) (c - 1) = b)
    (g4 : s' (o + 4) (c - 1) = i) (g6 : s' (o + 6) (c - 1) = s (o + 6) (c - 1) + D 1 i) (g14 : s' (o + 14) (c - 1) = s (o + 14) (c - 1) + D 3 i) (g16 : s' (o + 16) (c - 1) = s (o + 16) (c - 1) + D 4 i)
    (g8 : s' (o + 8) (c - 1) = y_o3 (s (o + 14) (c - 1) + D 3 i) (s (o + 16) (c - 1) + D 4 i) (s (o + 6) (c - 1) + D 1 i)) (gf : ∀ a b : Int, ¬ ((a = o + 4 ∨ a = o + 6 ∨ a = o + 8 ∨ a = o + 14 ∨ a = o + 16) ∧ b = c - 1) → s' a b = s a b) : y_GI D s' o a i c0 c := by
  obtain ⟨bl, r2, r4, r6, r14, r16, r8⟩ := g.2.1 (c - 1) (by omega) (by omega)
  have fz := bl.2.1
  have ez : i = s (o + 4) (c - 1) + 1 := by rw [l]; exact e
  have h2 : s' (o + 2) (c - 1) = s (o + 2) (c - 1) := gf _ _ (fun w => y_o24 w.1)
  refine g.more (b' := i) e ct hcc l ⟨h2, g4, ?_, ?_, ?_, ?_⟩ (fun x j p q => gf x j (fun w => absurd q (by rw [w.2]; exact Int.lt_irrefl _)))
  · rw [g6, r6, y_sum_more (i := i) ez fz]
  · rw [g14, r14, y_sum_more (i := i) ez fz]
  · rw [g16, r16, y_sum_more (i := i) ez fz]
  · rw [g8, r14, r16, r6]
    unfold y_BO
    rw [y_sum_more (h := D 3) (i := i) ez fz, y_sum_more (h := D 4) (i := i) ez fz, y_sum_more (h := D 1) (i := i) ez fz]
theorem y_gl {o x b c : Int} (ho : y_ob2 o) (h : x ≤ 222) : ¬ (y_gaw o x ∧ b = c) ∧ ¬ (x = o ∧ b = 9) := by
  have oo : o = 223 ∨ o = 279 := ho
  constructor
  · intro w; have w1 := w.1; omega
  · intro w; have w1 := w.1; omega
theorem y_CU2.fo {D s s' : z_M} {o c : Int} (h : y_CU2 D s) (ho : y_ob2 o) (gf : ∀ a b : Int, ¬ (y_gaw o a ∧ b = c) → ¬ (a = o ∧ b = 9) → s' a b = s a b) : y_CU2 D s' :=
  h.fr (gf _ _ (y_gl (c := c) ho (by decide)).1 (y_gl (c := c) ho (by decide)).2) (gf _ _ (y_gl (c := c) ho (by decide)).1 (y_gl (c := c) ho (by decide)).2) (fun _ _ _ q => gf _ _ (y_gl (c := c) ho (by omega)).1 (y_gl (c := c) ho (by omega)).2)
theorem e_gaL {fu : Nat} {D : z_M} {o a t c0 : Int} {s0 : z_M} {k : z_M → z_O} {P : z_V → z_M → Prop} (ho : y_ob2 o) (ha : 0 ≤ a) (ht : t < s0 191 16) (hat : a ≤ t + 1) (h0 : 0 ≤ c0 ∧ c0 ≤ a)
    (hk : ∀ (s' : z_M) (c : Int), y_GI D s' o a t c0 c → s' o 9 = c → (∀ x b : Int, ¬ (y_gaw o x ∧ c0 ≤ b) → ¬ (x = o ∧ b = 9) → s' x b = s0 x b) → z_T (k s') P) :
    ∀ (m F : Nat) (s : z_M) (i c : Int), (m : Int) = t + 1 - i → m < F → a ≤ i → y_CU2 D s → s o 9 = c → y_GI D s o a (i - 1) c0 c → (∀ x b : Int, ¬ (y_gaw o x ∧ c0 ≤ b) → ¬ (x = o ∧ b = 9) → s x b = s0 x b) → z_T (fX0_gather_L2 fu o a t F s i k) P := by
  have oo : o = 223 ∨ o = 279 := ho
  obtain ⟨o0, o1, o2, o3, o4, o5, o6, o7, o8, o9⟩ := v_o ho
  intro m
  induction m with
  | zero =>
    intro F s i c h1 hF h3 hu hc g f
    obtain ⟨F, rfl⟩ : ∃ F2, F = F2 + 1 := ⟨F - 1, by omega⟩
    refine T_of (fX0_gather_L2.eq_2 ..) ?_
    refine T_if1 (by omega) ?_
    rw [show i - 1 = t by omega] at g
    exact hk s c g hc f
  | succ m ih =>
    intro F s i c h1 hF h3 hu hc g f
    obtain ⟨F, rfl⟩ : ∃ F2, F = F2 + 1 := ⟨F - 1, by omega⟩
    have en : s 191 16 = s0 191 16 := f _ _ (by omega) (by omega)
    have n2 := hu.1.2
    have hi : 0 ≤ i ∧ i < s 191 16 := by omega
    have cb := g.1
    have new : D 0 i = 7 → ¬ y_ct D a i → z_T (fX0_gather_J58 fu s o a t i (fun w v3 => fX0_gather_L2 fu o a t F w v3 k) k) P := fun k7 nct => by
      refine e_ga58 (D := D) (c := c) ho hu hi k7 hc (by omega) (fun s' br g9 gf => ?_)
      refine ih F s' (i + 1) (c + 1) (by omega) (by omega) (by omega) (hu.fo ho gf) g9 ?_ (fun x b p q => (gf x b (fun w => p ⟨w.1, by have := w.2; omega⟩) q).trans (f x b p q))
      rw [show i + 1 - 1 = i by omega]
      exact g.new (b' := i) (by omega) h3 ⟨k7, nct⟩ br (fun x j p q => gf x j (fun w => absurd q (by rw [w.2]; exact Int.lt_irrefl _)) (fun w => by have w1 := w.1; omega))
    have u := hu.2.2.1 i hi.1 hi.2
    have d := hu.2.2.2.2 i hi.1 hi.2
    refine T_of (fX0_gather_L2.eq_2 ..) ?_
    refine T_if0 (by omega) ?_
    refine T_if1 o0 ?_
    refine T_let 191 o1 ?_
    refine T_if1 v_ob191 ?_
    refine T_let 192 v_g2 ?_
    refine T_if1 v_rw192.1 ?_
    refine T_getX v_k192 ⟨hi.1, by omega⟩ ?_
    rw [u.1]
    refine T_ite (fun k7 => ?_) (fun k7 => ?_)
    · -- a base
      refine T_ite (fun q => new k7 (fun w => by have w1 := w.1; omega)) (fun q => ?_)
      refine T_if1 o0 ?_
      refine T_let 191 o1 ?_
      refine T_if1 v_ob191 ?_
      refine T_let 200 v_u6 ?_
      refine T_let (i - 1) (v_wid (by omega)) ?_
      refine T_if1 v_r200.1.1 ?_
      refine T_getX v_k200 ⟨by omega, by omega⟩ ?_
      refine T_if1 o0 ?_
      refine T_let 191 o1 ?_
      refine T_if1 v_ob191 ?_
      refine T_let 200 v_u6 ?_
      refine T_if1 v_r200.1.1 ?_
      refine T_getX v_k200 ⟨by omega, by omega⟩ ?_
      have u1 := hu.2.2.1 (i - 1) (by omega) (by omega)
      rw [(u.2.2.1 k7).1]
      refine T_ite (fun q2 => ?_) (fun q2 => ?_)
      · -- it goes on
        have k6 : D 0 (i - 1) = 7 := by
          by_cases z : D 0 (i - 1) = 7
          · exact z
          · have := u1.2.2.2 z
            have := (d.2.2.2.1 k7).2
            omega
        rw [(u1.2.2.1 k6).1] at q2
        have ct : y_ct D a i := ⟨by omega, k7, k6, q2⟩
        clear u u1 d q2 new
        have hcc : c0 < c := by
          by_cases z : c0 < c
          · exact z
          · exact absurd k6 (g.2.2.2.2 (i - 1) (by omega) (by rw [if_neg z]; exact Int.le_refl _))
        obtain ⟨bl, br⟩ := g.2.1 (c - 1) (by omega) (by omega)
        have l : s (o + 4) (c - 1) = i - 1 := by
          have b1 := bl.2.2.1
          by_cases z : s (o + 4) (c - 1) = i - 1
          · exact z
          · exact absurd k6 (g.2.2.2.1 hcc (i - 1) (by omega) (Int.le_refl _))
        have fb := bl.2.1
        have fa := bl.1
        have bb := br.b hu.2.2.2.2 (by omega) (by rw [l]; omega) n2 fb
        have hc2 : 1 ≤ c ∧ c ≤ 200 := by omega
        refine e_ga116 (D := D) (c := c) ho hu hi k7 hc hc2 bb.1 bb.2.1 bb.2.2 (fun s' g4 g6 g14 g16 g8 gf => ?_)
        have gg := g.on (i := i) (by omega) ct hcc l g4 g6 g14 g16 g8 gf
        have gf' : ∀ x j : Int, ¬ (y_gaw o x ∧ j = c - 1) → s' x j = s x j := fun x j p => gf x j (fun w => p ⟨Or.inr w.1, w.2⟩)
        clear g4 g6 g14 g16 g8 bb br bl fb fa l
        refine ih F s' (i + 1) c (by omega) (by omega) (by omega) (hu.fo ho (c := c - 1) (fun x j p _ => gf' x j p)) ((gf' o 9 (fun w => by have w1 := w.1; omega)).trans hc) ?_ (fun x b p q => (gf' x b (fun w => p ⟨w.1, by have := w.2; omega⟩)).trans (f x b p q))
        rw [show i + 1 - 1 = i by omega]
        exact gg
      · refine new k7 (fun w => q2 ?_)
        rw [(u1.2.2.1 w.2.2.1).1]
        exact w.2.2.2
    · refine T_of (fX0_gather_J245.eq_1 ..) ?_
      refine T_let (i + 1) (v_wid (by omega)) ?_
      refine ih F s (i + 1) c (by omega) (by omega) (by omega) hu hc ?_ f
      rw [show i + 1 - 1 = i by omega]
      exact g.n (b' := i) (by omega) k7
theorem e_gather {fu : Nat} (hfu : 8589934592 ≤ fu) {D s : z_M} {o a t c0 : Int} (ho : y_ob2 o) (hu : y_CU2 D s) (ha : 0 ≤ a) (ht : t < s 191 16) (hat : a ≤ t + 1) (h0 : 0 ≤ c0 ∧ c0 ≤ a) (hc : s o 9 = c0) : z_T (fX0_gather fu s o a t) (fun v s' => v = vN ∧ (∃ c, y_GI D s' o a t c0 c ∧ s' o 9 = c) ∧ ∀ x b : Int, ¬ (y_gaw o x ∧ c0 ≤ b) → ¬ (x = o ∧ b = 9) → s' x b = s x b) := by
  have n2 := hu.1.2
  refine T_of (fX0_gather.eq_1 ..) ?_
  exact e_gaL ho ha ht hat h0 (fun s' c g g9 f => T_ret ⟨rfl, ⟨c, g, g9⟩, f⟩) (t + 1 - a).toNat fu s a c0 (by omega) (by omega) (Int.le_refl _) hu hc (y_GI.z rfl) (fun _ _ _ _ => rfl)
