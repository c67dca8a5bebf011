/-! nearest: two letters of READINGS of two BLOCKS in one LINE -/
theorem y_td4 {x m : Int} (hx : -2147483648 ≤ x ∧ x ≤ 2147483648) (hm : 4 ≤ m) : -536870912 ≤ Int.tdiv x m ∧ Int.tdiv x m ≤ 536870912 := by
  have h1 : (Int.tdiv x m).natAbs = x.natAbs / m.natAbs := Int.natAbs_tdiv x m
  have h2 : x.natAbs / m.natAbs ≤ 536870912 := Nat.div_le_of_le_mul (by omega)
  omega
theorem y_pf_b {n v st i : Int} (hn : 0 < n ∧ n ≤ 3000) (hi : 0 ≤ i ∧ i < n) (hw : 0 ≤ v ∧ v ≤ 480000) (hs : 0 ≤ st ∧ st ≤ 10010000) : -600000000 ≤ y_pf n v st i ∧ y_pf n v st i ≤ 600000000 := by
  unfold y_pf
  rw [v_wid (x := 6 * n) (by omega), v_wid (x := 2 * i) (by omega), v_wid (x := 2 * i + 1) (by omega), v_wid (x := 2 * n) (by omega), v_wid (x := 6 * i) (by omega)]
  by_cases h : 6 * n ≤ v
  · rw [if_pos h, if_neg (by omega)]
    have key : -536870912 ≤ Int.tdiv (z_w (v * (2 * i + 1))) (2 * n) ∧ Int.tdiv (z_w (v * (2 * i + 1))) (2 * n) ≤ 536870912 := by
      by_cases h1 : n = 1
      · have e0 : i = 0 := by omega
        subst h1
        subst e0
        rw [show v * (2 * 0 + 1) = v by omega, v_wid (by omega), show (2 * 1 : Int) = 2 by decide, v_td2 hw.1]
        omega
      · have b := z_wI (v * (2 * i + 1))
        exact y_td4 (by unfold z_I at b; omega) (by omega)
    generalize Int.tdiv (z_w (v * (2 * i + 1))) (2 * n) = t at *
    rw [v_wid (x := t) (by omega), v_wid (x := st + t) (by omega), v_wid (x := st + t - 3) (by omega)]
    omega
  · rw [if_neg h, v_wid (x := 6 * n - v) (by omega), v_td2 (by omega), v_wid (x := (6 * n - v) / 2) (by omega), v_wid (x := st - (6 * n - v) / 2) (by omega), v_wid (x := st - (6 * n - v) / 2 + 6 * i) (by omega)]
    omega
/-- values of neighbours with letters -/
def y_np (n p q : Int → Int) (A B v : Int) : Prop := ∃ k e : Int, A ≤ k ∧ k < e ∧ e < B ∧ 0 < n k ∧ 0 < n e ∧ (∀ j : Int, k < j → j < e → n j ≤ 0) ∧ v = p e - q k - 6
/-- the least one, or none -/
def y_Mn (P : Int → Prop) (x : Int) : Prop := (x = 2147483647 ∧ ∀ v : Int, ¬ P v) ∨ (P x ∧ ∀ v : Int, P v → x ≤ v)
/-- where the latest one ends -/
def y_Ne (n q : Int → Int) (A B x : Int) : Prop := (x = 2147483647 ∧ ∀ j : Int, A ≤ j → j < B → n j ≤ 0) ∨ ∃ k : Int, A ≤ k ∧ k < B ∧ 0 < n k ∧ (∀ j : Int, k < j → j < B → n j ≤ 0) ∧ x = q k + 6 ∧ x ≠ 2147483647
theorem y_Mn.cg {P P' : Int → Prop} {x : Int} (h : y_Mn P x) (e : ∀ v : Int, P' v ↔ P v) : y_Mn P' x := by
  rcases h with ⟨a, b⟩ | ⟨a, b⟩
  · exact Or.inl ⟨a, fun v k => b v ((e v).mp k)⟩
  · exact Or.inr ⟨(e x).mpr a, fun v k => b v ((e v).mp k)⟩
theorem y_Mn.add {P P' : Int → Prop} {x y : Int} (h : y_Mn P x) (e : ∀ v : Int, P' v ↔ P v ∨ v = y) (hy : y < 2147483647) : y_Mn P' (z_min x y) := by
  have m := z_minb x y
  rcases h with ⟨a, b⟩ | ⟨a, b⟩
  · have ez : z_min x y = y := by omega
    rw [ez]
    refine Or.inr ⟨(e y).mpr (Or.inr rfl), fun v k => ?_⟩
    rcases (e v).mp k with k | k
    · exact absurd k (b v)
    · omega
  · refine Or.inr ⟨?_, fun v k => ?_⟩
    · rcases m.2.2 with r | r
      · rw [r]; exact (e x).mpr (Or.inl a)
      · rw [r]; exact (e y).mpr (Or.inr rfl)
    · rcases (e v).mp k with k | k
      · have := b v k
        omega
      · omega
theorem y_Mn.or {P Q : Int → Prop} {x y : Int} (h : y_Mn P x) (g : y_Mn Q y) (hp : ∀ v : Int, P v → v < 2147483647) (hq : ∀ v : Int, Q v → v < 2147483647) : y_Mn (fun v => P v ∨ Q v) (z_min x y) := by
  have m := z_minb x y
  rcases h with ⟨a, b⟩ | ⟨a, b⟩
  · rcases g with ⟨c, d⟩ | ⟨c, d⟩
    · exact Or.inl ⟨by omega, fun v k => k.elim (b v) (d v)⟩
    · have := hq y c
      have ez : z_min x y = y := by omega
      rw [ez]
      exact Or.inr ⟨Or.inr c, fun v k => k.elim (fun k => absurd k (b v)) (d v)⟩
  · have := hp x a
    rcases g with ⟨c, d⟩ | ⟨c, d⟩
    · have ez : z_min x y = x := by omega
      rw [ez]
      exact Or.inr ⟨Or.inl a, fun v k => k.elim (b v) (fun k => absurd k (d v))⟩
    · refine Or.inr ⟨?_, fun v k => ?_⟩
      · rcases m.2.2 with r | r
        · rw [r]; exact Or.inl a
        · rw [r]; exact Or.inr c
      · rcases k with k | k
        · have := b v k
          omega
        · have := d v k
          omega
theorem y_np0 {n p q : Int → Int} {A B v : Int} (h : n B ≤ 0) : y_np n p q A (B + 1) v ↔ y_np n p q A B v := by
  constructor
  · rintro ⟨k, e, h1, h2, h3, h4, h5, h6, h7⟩
    have ne : e ≠ B := fun r => by rw [r] at h5; omega
    exact ⟨k, e, h1, h2, by omega, h4, h5, h6, h7⟩
  · rintro ⟨k, e, h1, h2, h3, r⟩
    exact ⟨k, e, h1, h2, by omega, r⟩
theorem y_np1 {n p q : Int → Int} {A B v : Int} (h : ∀ j : Int, A ≤ j → j < B → n j ≤ 0) : y_np n p q A (B + 1) v ↔ y_np n p q A B v := by
  constructor
  · rintro ⟨k, e, h1, h2, h3, h4, h5, h6, h7⟩
    have := h k h1 (by omega)
    omega
  · rintro ⟨k, e, h1, h2, h3, r⟩
    exact ⟨k, e, h1, h2, by omega, r⟩
theorem y_np2 {n p q : Int → Int} {A B v k : Int} (h1 : A ≤ k) (h2 : k < B) (h3 : 0 < n k) (h4 : ∀ j : Int, k < j → j < B → n j ≤ 0) (h5 : 0 < n B) : y_np n p q A (B + 1) v ↔ y_np n p q A B v ∨ v = p B - q k - 6 := by
  constructor
  · rintro ⟨k', e, g1, g2, g3, g4, g5, g6, g7⟩
    by_cases r : e = B
    · subst r
      have ek : k' = k := by
        rcases Int.lt_trichotomy k' k with z | z | z
        · have := g6 k z h2
          omega
        · exact z
        · have := h4 k' z g2
          omega
      subst ek
      exact Or.inr g7
    · exact Or.inl ⟨k', e, g1, g2, by omega, g4, g5, g6, g7⟩
  · intro r
    rcases r with ⟨k', e, g1, g2, g3, r⟩ | r
    · exact ⟨k', e, g1, g2, by omega, r⟩
    · exact ⟨k, B, h1, h2, by omega, h3, h5, h4, r⟩
theorem y_Ne.s0 {n q : Int → Int} {A B x : Int} (h : y_Ne n q A B x) (hn : n B ≤ 0) : y_Ne n q A (B + 1) x := by
  rcases h with ⟨a, b⟩ | ⟨k, h1, h2, h3, h4, h5, h6⟩
  · refine Or.inl ⟨a, fun j p r => ?_⟩
    by_cases z : j = B
    · rw [z]; exact hn
    · exact b j p (by omega)
  · refine Or.inr ⟨k, h1, by omega, h3, fun j p r => ?_, h5, h6⟩
    by_cases z : j = B
    · rw [z]; exact hn
    · exact h4 j p (by omega)
theorem y_Ne.s1 {n q : Int → Int} {A B : Int} (hA : A ≤ B) (hn : 0 < n B) (hq : q B ≤ 2000000000) : y_Ne n q A (B + 1) (q B + 6) :=
  Or.inr ⟨B, hA, by omega, hn, fun j p r => by omega, rfl, by omega⟩
theorem y_np_b {n p q : Int → Int} {A B v : Int} (h : y_np n p q A B v) (hb : ∀ k : Int, A ≤ k → k < B → 0 < n k → (-600000000 ≤ p k ∧ p k ≤ 600000000) ∧ -600000000 ≤ q k ∧ q k ≤ 600000000) : v < 2147483647 := by
  obtain ⟨k, e, h1, h2, h3, h4, h5, h6, h7⟩ := h
  have a := hb k h1 (by omega) h4
  have b := hb e (by omega) h3 h5
  omega
theorem y_np_cg {n p q n' p' q' : Int → Int} {A B v : Int} (e : ∀ k : Int, A ≤ k → k < B → n k = n' k ∧ p k = p' k ∧ q k = q' k) : y_np n p q A B v → y_np n' p' q' A B v := by
  rintro ⟨k, x, h1, h2, h3, h4, h5, h6, h7⟩
  obtain ⟨a1, a2, a3⟩ := e k h1 (by omega)
  obtain ⟨b1, b2, b3⟩ := e x (by omega) h3
  exact ⟨k, x, h1, h2, h3, by omega, by omega, fun j p r => by have c := (e j (by omega) (by omega)).1; have d := h6 j p r; omega, by omega⟩
/-! the class -/
def y_fp (s : z_M) (k d i : Int) : Int := y_pf (y_ltr s k d) (s 285 k) (s 262 (s 281 k)) i
def y_bq (s : z_M) (k d : Int) : Prop := (0 ≤ k ∧ k < 200) ∧ (0 ≤ s 281 k ∧ s 281 k < 200) ∧ (0 ≤ y_ltr s k d ∧ y_ltr s k d ≤ 3000) ∧ ∀ i : Int, 0 ≤ i → i < y_ltr s k d → -600000000 ≤ y_fp s k d i ∧ y_fp s k d i ≤ 600000000
theorem e_fp {fu : Nat} {s : z_M} {k d i : Int} (h : y_bq s k d) : fX3_letterPlace fu s 258 k d i = some (vI (y_fp s k d i), s) := e_letterPlace h.1 h.2.1 (by have := h.2.2.1; omega)
abbrev y_cnn (s : z_M) (d : Int) : Int → Int := fun k => y_ltr s k d
abbrev y_c0 (s : z_M) (d : Int) : Int → Int := fun k => y_fp s k d 0
abbrev y_c1 (s : z_M) (d : Int) : Int → Int := fun k => y_fp s k d (y_ltr s k d - 1)
theorem y_LBc.r1 {D s : z_M} (h : y_LBc D s) {l : Int} (l0 : 0 ≤ l) (l1 : l < s 240 6) : 0 ≤ s 248 l ∧ s 248 l < s 248 (l + 1) ∧ s 248 (l + 1) ≤ s 191 16 := by
  obtain ⟨nx, cc, ⟨hx, hc, h6, hr⟩, _⟩ := h
  exact hr.SV hx.b l0 (by omega)
theorem y_LBc.b1 {D s : z_M} (h : y_LBc D s) {l : Int} (l0 : 0 ≤ l) (l1 : l ≤ s 240 6) : s 278 l = y_bn D (s 248) l := by
  obtain ⟨nx, cc, ⟨hx, hc, h6, hr⟩, ly, l278, l279⟩ := h
  by_cases z : l < s 240 6
  · exact (ly l l0 z).1.2.2.2.2.1
  · have e : l = s 240 6 := by omega
    rw [e]
    exact l278
theorem y_LBc.bb {D s : z_M} (h : y_LBc D s) (hn : 0 ≤ s 191 16 ∧ s 191 16 ≤ 200) {l : Int} (l0 : 0 ≤ l) (l1 : l < s 240 6) : 0 ≤ s 278 l ∧ s 278 l ≤ s 278 (l + 1) ∧ s 278 (l + 1) ≤ 200 := by
  have e0 := h.b1 l0 (by omega)
  have e1 := h.b1 (l := l + 1) (by omega) (by omega)
  have rr := h.r1 l0 l1
  have at' : ∀ i : Int, 0 ≤ i → i < s 240 6 → 0 ≤ s 248 i ∧ s 248 i < s 248 (i + 1) ∧ s 248 (i + 1) ≤ s 191 16 := fun i p q => h.r1 p q
  have k0 := (y_bi_r (D := D) at' l.toNat l (by omega) (by omega)).1
  have k1 := (y_bi_r (D := D) at' (l + 1).toNat (l + 1) (by omega) (by omega)).2 (by omega)
  have bs := y_bi_s (D := D) (r := s 248) l0
  have nb := y_ns_b (D := D) (a := s 248 l) (u := s 248 (l + 1)) (by omega)
  omega
/-- blocks of a line -/
theorem y_LBc.bk {s : z_M} (ok : y_OKc s) (h : y_LBc (y_dc s) s) {l k : Int} (l0 : 0 ≤ l) (l1 : l < s 240 6) (k0 : s 278 l ≤ k) (k1 : k < s 278 (l + 1)) : y_Bl (y_dc s) (s 248 l) (s 248 (l + 1) - 1) (s 281 k) (s 283 k) ∧ (s 285 k = y_sum (y_dc s 1) (s 281 k) (s 283 k - s 281 k + 1).toNat ∧ s 293 k = y_sum (y_dc s 3) (s 281 k) (s 283 k - s 281 k + 1).toNat ∧ s 295 k = y_sum (y_dc s 4) (s 281 k) (s 283 k - s 281 k + 1).toNat) ∧ s 262 (s 281 k) = y_pl (y_dc s) (y_me (y_dc s) (s 3 7) (s 191 16)) (y_qc s) (s 248 l) (s 248 (l + 1) - 1) (s 281 k) := by
  have rr := h.r1 l0 l1
  have e1 := h.b1 (l := l + 1) (by omega) (by omega)
  obtain ⟨nx, cc, ⟨hx, hc, h6, hr⟩, ly, l278, l279⟩ := h
  obtain ⟨ml, uw⟩ := ly l l0 l1
  obtain ⟨_, _, _, _, a5, gi, _⟩ := ml
  obtain ⟨bl0, br⟩ := gi.2.1 k (by omega) (by omega)
  have bl := bl0.up (by omega)
  have bl : y_Bl (y_dc s) (s 248 l) (s 248 (l + 1) - 1) (s 281 k) (s 283 k) := bl
  obtain ⟨_, _, r6, r14, r16, r8⟩ := br
  have b1 := bl.1
  have b2 := bl.2.1
  have b3 := bl.2.2.1
  exact ⟨bl, ⟨r6, r14, r16⟩, (uw (s 281 k) b1 (by omega)).2.1⟩
theorem y_LBc.bq {s : z_M} (ok : y_OKc s) (h : y_LBc (y_dc s) s) {l k : Int} (l0 : 0 ≤ l) (l1 : l < s 240 6) (k0 : s 278 l ≤ k) (k1 : k < s 278 (l + 1)) {d : Int} : y_bq s k d := by
  have rr := h.r1 l0 l1
  have bb := h.bb ok.2.2.2.1 l0 l1
  obtain ⟨bl, ⟨r6, r14, r16⟩, e262⟩ := h.bk ok l0 l1 k0 k1
  have b1 := bl.1
  have b2 := bl.2.1
  have b3 := bl.2.2.1
  have nn := ok.2.2.2.1
  have pl := y_pl_b (E := y_me (y_dc s) (s 3 7) (s 191 16)) (Q := y_qc s) (u := s 281 k) (a := s 248 l) (b := s 248 (l + 1) - 1) ok.2.2.1 rr.1 (by omega) nn.2 (by rw [y_qc1]; exact ok.2.2.2.2.1) (by rw [y_qc2]; have := ok.2.2.2.2.2.1; omega) ⟨b1, by omega⟩
  rw [← e262] at pl
  have w1 := y_sum_r (f := y_dc s 1) (a := s 281 k) (m := 2400) (s 283 k - s 281 k + 1).toNat (fun i p q => (ok.2.2.1 i (by omega) (by omega)).2.1)
  have w3 := y_sum_r (f := y_dc s 3) (a := s 281 k) (m := 15) (s 283 k - s 281 k + 1).toNat (fun i p q => (ok.2.2.1 i (by omega) (by omega)).2.2.2.2.1)
  have w4 := y_sum_r (f := y_dc s 4) (a := s 281 k) (m := 15) (s 283 k - s 281 k + 1).toNat (fun i p q => (ok.2.2.1 i (by omega) (by omega)).2.2.2.2.2)
  rw [← r6] at w1
  rw [← r14] at w3
  rw [← r16] at w4
  have lb : 0 ≤ y_ltr s k d ∧ y_ltr s k d ≤ 3000 := by
    unfold y_ltr
    split <;> omega
  refine ⟨by omega, by omega, lb, fun i p q => ?_⟩
  unfold y_fp
  exact y_pf_b (by omega) ⟨p, q⟩ (by omega) pl
theorem e_noL {fu : Nat} {s : z_M} {l d A B : Int} (hl : 0 ≤ l ∧ l < 200) (hB : s 278 (l + 1) = B) (hb : ∀ k : Int, A ≤ k → k < B → y_bq s k d) {k : z_M → Int → z_O} {P : z_V → z_M → Prop} (kk : ∀ x : Int, y_Mn (y_np (y_cnn s d) (y_c0 s d) (y_c1 s d) A B) x → z_T (k s x) P) : ∀ (m F : Nat) (b x e : Int), (m : Int) = B - b → m < F → A ≤ b → y_Mn (y_np (y_cnn s d) (y_c0 s d) (y_c1 s d) A b) x → y_Ne (y_cnn s d) (y_c1 s d) A b e → z_T (fX3_nearestOn_L17 fu 258 l d F s x e b k) P := by
  intro m
  induction m with
  | zero =>
    intro F b x e h1 hF h2 g1 g2
    obtain ⟨F, rfl⟩ : ∃ F2, F = F2 + 1 := ⟨F - 1, by omega⟩
    have eb : b = B := by omega
    subst eb
    refine T_of (fX3_nearestOn_L17.eq_2 ..) ?_
    refine T_if1 (by decide +kernel) ?_
    refine T_let 277 (by decide +kernel) ?_
    refine T_let (l + 1) (v_wid (by omega)) ?_
    refine T_if1 (by decide +kernel) ?_
    refine T_getV w_r277 (by omega) hB ?_
    refine T_if1 (by omega) ?_
    exact kk x g1
  | succ m ih =>
    intro F b x e h1 hF h2 g1 g2
    obtain ⟨F, rfl⟩ : ∃ F2, F = F2 + 1 := ⟨F - 1, by omega⟩
    have bq := hb b h2 (by omega)
    have n0 := bq.2.2.1
    have bq1 := bq.1
    refine T_of (fX3_nearestOn_L17.eq_2 ..) ?_
    refine T_if1 (by decide +kernel) ?_
    refine T_let 277 (by decide +kernel) ?_
    refine T_let (l + 1) (v_wid (by omega)) ?_
    refine T_if1 (by decide +kernel) ?_
    refine T_getV w_r277 (by omega) hB ?_
    refine T_if0 (by omega) ?_
    refine T_if1 (by decide +kernel) ?_
    refine T_let 279 (by decide +kernel) ?_
    refine T_if1 (by decide +kernel) ?_
    refine T_bI (T_of (e_letters bq.1) (T_rI ?_))
    refine T_ite (fun hN => ?_) (fun hN => ?_)
    · refine T_of (fX3_nearestOn_J88.eq_1 ..) ?_
      refine T_let (b + 1) (v_wid (by omega)) ?_
      exact ih F (b + 1) x e (by omega) (by omega) (by omega) (g1.cg (fun v => y_np0 hN)) (g2.s0 hN)
    · have q0 := bq.2.2.2 0 (Int.le_refl _) (by omega)
      have q1 := bq.2.2.2 (y_ltr s b d - 1) (by omega) (by omega)
      refine T_ite (fun hE => ?_) (fun hE => ?_)
      · refine T_of (fX3_nearestOn_J72.eq_1 ..) ?_
        refine T_let ((y_ltr s b d) - 1) (v_wid (by omega)) ?_
        refine T_if1 (by decide +kernel) ?_
        refine T_bI (T_of (e_fp bq) (T_rI ?_))
        refine T_let ((y_fp s b d ((y_ltr s b d) - 1)) + 6) (v_wid (by omega)) ?_
        refine T_of (fX3_nearestOn_J88.eq_1 ..) ?_
        refine T_let (b + 1) (v_wid (by omega)) ?_
        have nn : ∀ j : Int, A ≤ j → j < b → y_cnn s d j ≤ 0 := by
          rcases g2 with ⟨_, g⟩ | ⟨_, _, _, _, _, _, g⟩
          · exact g
          · exact absurd hE g
        exact ih F (b + 1) x _ (by omega) (by omega) (by omega) (g1.cg (fun v => y_np1 nn)) (y_Ne.s1 (n := y_cnn s d) (q := y_c1 s d) h2 (by show 0 < y_ltr s b d; omega) (by show y_fp s b d (y_ltr s b d - 1) ≤ 2000000000; omega))
      · refine T_if1 (by decide +kernel) ?_
        refine T_bI (T_of (e_fp bq) (T_rI ?_))
        refine T_let (z_w ((y_fp s b d 0) - e)) rfl ?_
        refine T_let (z_min x (z_w ((y_fp s b d 0) - e))) rfl ?_
        refine T_of (fX3_nearestOn_J72.eq_1 ..) ?_
        refine T_let ((y_ltr s b d) - 1) (v_wid (by omega)) ?_
        refine T_if1 (by decide +kernel) ?_
        refine T_bI (T_of (e_fp bq) (T_rI ?_))
        refine T_let ((y_fp s b d ((y_ltr s b d) - 1)) + 6) (v_wid (by omega)) ?_
        refine T_of (fX3_nearestOn_J88.eq_1 ..) ?_
        refine T_let (b + 1) (v_wid (by omega)) ?_
        rcases g2 with ⟨g, _⟩ | ⟨k0, p1, p2, p3, p4, p5, p6⟩
        · exact absurd g hE
        have bk := hb k0 p1 (by omega)
        have p3 : 0 < y_ltr s k0 d := p3
        have p5 : e = y_fp s k0 d (y_ltr s k0 d - 1) + 6 := p5
        have q2 := bk.2.2.2 (y_ltr s k0 d - 1) (by omega) (by omega)
        have ev : z_w (y_fp s b d 0 - e) = y_c0 s d b - y_c1 s d k0 - 6 := by
          show z_w (y_fp s b d 0 - e) = y_fp s b d 0 - y_fp s k0 d (y_ltr s k0 d - 1) - 6
          rw [v_wid (by omega)]
          omega
        rw [ev]
        have lt : y_c0 s d b - y_c1 s d k0 - 6 < 2147483647 := by
          show y_fp s b d 0 - y_fp s k0 d (y_ltr s k0 d - 1) - 6 < 2147483647
          omega
        exact ih F (b + 1) _ _ (by omega) (by omega) (by omega) (g1.add (fun v => y_np2 p1 p2 p3 p4 (by show 0 < y_ltr s b d; omega)) lt) (y_Ne.s1 (n := y_cnn s d) (q := y_c1 s d) h2 (by show 0 < y_ltr s b d; omega) (by show y_fp s b d (y_ltr s b d - 1) ≤ 2000000000; omega))
theorem e_nearestOn {fu : Nat} (hfu : 8589934592 ≤ fu) {s : z_M} {l d A B : Int} (hl : 0 ≤ l ∧ l < 200) (hA : s 278 l = A) (hB : s 278 (l + 1) = B) (hAB : A ≤ B ∧ B ≤ A + 200) (hb : ∀ k : Int, A ≤ k → k < B → y_bq s k d) : z_T (fX3_nearestOn fu s 258 l d) (fun v s' => s' = s ∧ ∃ x, v = vI x ∧ y_Mn (y_np (y_cnn s d) (y_c0 s d) (y_c1 s d) A B) x) := by
  refine T_of (fX3_nearestOn.eq_1 ..) ?_
  refine T_if1 (by decide +kernel) ?_
  refine T_let 277 (by decide +kernel) ?_
  refine T_if1 (by decide +kernel) ?_
  refine T_getV w_r277 (by omega) hA ?_
  exact e_noL hl hB hb (fun x g => T_ret ⟨rfl, x, rfl, g⟩) (B - A).toNat fu A _ _ (by omega) (by omega) (Int.le_refl _) (Or.inl ⟨rfl, fun v g => by obtain ⟨k, e, h1, h2, h3, _⟩ := g; omega⟩) (Or.inl ⟨rfl, fun j p q => by omega⟩)
/-- the first line that has the least one -/
def y_Nw (P : Int → Int → Prop) (L v x : Int) : Prop := (v = -1 ∧ x = 2147483647 ∧ ∀ l u : Int, 0 ≤ l → l < L → ¬ P l u) ∨ (0 ≤ v ∧ v < L ∧ P v x ∧ ∀ l u : Int, 0 ≤ l → l < L → P l u → x ≤ u ∧ (u = x → v ≤ l))
theorem y_Nw.s {P : Int → Int → Prop} {L v x y : Int} (hL : 0 ≤ L) (h : y_Nw P L v x) (g : y_Mn (P L) y) (hp : ∀ l u : Int, 0 ≤ l → l ≤ L → P l u → u < 2147483647) : (x ≤ y → y_Nw P (L + 1) v x) ∧ (¬ x ≤ y → y_Nw P (L + 1) L y) := by
  rcases h with ⟨a, b, c⟩ | ⟨a, a', b, c⟩
  · constructor
    · intro r
      rcases g with ⟨_, g⟩ | ⟨g, _⟩
      · refine Or.inl ⟨a, b, fun l u p q => ?_⟩
        by_cases z : l = L
        · rw [z]; exact g u
        · exact c l u p (by omega)
      · have := hp L y hL (Int.le_refl _) g
        omega
    · intro r
      rcases g with ⟨g, _⟩ | ⟨g, g'⟩
      · omega
      · refine Or.inr ⟨hL, by omega, g, fun l u p q k => ?_⟩
        by_cases z : l = L
        · rw [z] at k
          have := g' u k
          omega
        · exact absurd k (c l u p (by omega))
  · constructor
    · intro r
      refine Or.inr ⟨a, by omega, b, fun l u p q k => ?_⟩
      by_cases z : l = L
      · rw [z] at k
        rcases g with ⟨_, g⟩ | ⟨_, g⟩
        · exact absurd k (g u)
        · have := g u k
          omega
      · exact c l u p (by omega) k
    · intro r
      have := hp v x a (by omega) b
      rcases g with ⟨g, _⟩ | ⟨g, g'⟩
      · omega
      · refine Or.inr ⟨hL, by omega, g, fun l u p q k => ?_⟩
        by_cases z : l = L
        · rw [z] at k
          have := g' u k
          omega
        · have := (c l u p (by omega) k).1
          omega
theorem y_Nw.eq {P P' : Int → Int → Prop} {L v x v' x' : Int} (e : ∀ l u : Int, 0 ≤ l → l < L → (P l u ↔ P' l u)) (h : y_Nw P L v x) (h' : y_Nw P' L v' x') : v = v' ∧ x = x' := by
  rcases h with ⟨a, b, c⟩ | ⟨a, a', b, c⟩
  · rcases h' with ⟨d, f, g⟩ | ⟨d, d', f, g⟩
    · omega
    · exact absurd ((e v' x' d d').mpr f) (c v' x' d d')
  · rcases h' with ⟨d, f, g⟩ | ⟨d, d', f, g⟩
    · exact absurd ((e v x a a').mp b) (g v x a a')
    · have r1 := c v' x' d d' ((e v' x' d d').mpr f)
      have r2 := g v x a a' ((e v x a a').mp b)
      have ex : x = x' := by omega
      exact ⟨by have := r1.2 ex.symm; have := r2.2 ex; omega, ex⟩
def y_NR (P : Int → Int → Prop) (L q z : Int) : Prop := ∃ v x, y_Nw P L v x ∧ z = if q = 1 then v else if v = -1 then 999 else x
theorem y_NR.eq {P P' : Int → Int → Prop} {L q z z' : Int} (e : ∀ l u : Int, 0 ≤ l → l < L → (P l u ↔ P' l u)) (h : y_NR P L q z) (h' : y_NR P' L q z') : z = z' := by
  obtain ⟨v, x, h, rfl⟩ := h
  obtain ⟨v', x', h', rfl⟩ := h'
  obtain ⟨e1, e2⟩ := h.eq e h'
  rw [e1, e2]
/-- a refusal, or an answer told by a relation, where all is laid out -/
def y_QRL (s : z_M) (v : z_V) (ok : Prop) (R : z_M → Int → Prop) : Prop := (¬ ok ∧ v = vX 1) ∨ (ok ∧ ∃ sr x, y_RY s sr ∧ v = vI x ∧ R sr x)
def y_ARL (s s' : z_M) (ok : Prop) (y : Int) (S : z_M → Int → Prop) : Prop := (¬ ok ∧ s' 309 0 = 1) ∨ (ok ∧ s' 309 0 = 0 ∧ ∃ sl, y_RM s sl ∧ S sl y)
theorem y_JRL {s s1 s2 : z_M} {v0 : z_V} {ok : Prop} {R S : z_M → Int → Prop} {x y : Int} (q : y_QRL s v0 ok R) (vx : y_VX 0 1 s1 v0 x) (a : y_ARL s1 s2 ok y S) (o : s2 7658 0 = s1 7658 0) (e : ∀ sr sl z, ok → y_RY s sr → y_RM s1 sl → R sr z → S sl y → z = y) : s2 309 0 = x ∧ (x = 0 → s2 7658 0 = y) := by
  have a1 : y_A1 s2 ok y y := a.imp id (fun r => ⟨r.1, r.2.1, rfl⟩)
  rcases q with ⟨n, rfl⟩ | ⟨k, sr, z, ry, rfl, r⟩
  · exact y_J1 (s := s) (F := fun _ => 0) (Or.inl ⟨n, rfl⟩) vx a1 o (fun _ k _ => absurd k n)
  · refine y_J1 (s := s) (F := fun _ => z) (Or.inr ⟨k, sr, ry.1, rfl⟩) vx a1 o (fun _ _ _ => ?_)
    rcases a with ⟨n, _⟩ | ⟨_, _, sl, rl, sy⟩
    · exact absurd k n
    · exact e sr sl z k ry rl r sy
/-- a line has such a pair of the class's blocks -/
def y_cP (s : z_M) (l v : Int) : Prop := y_np (y_cnn s 0) (y_c0 s 0) (y_c1 s 0) (s 278 l) (s 278 (l + 1)) v ∨ y_np (y_cnn s 1) (y_c0 s 1) (y_c1 s 1) (s 278 l) (s 278 (l + 1)) v
theorem y_bq.pq {s : z_M} {k d : Int} (h : y_bq s k d) (n : 0 < y_ltr s k d) : (-600000000 ≤ y_c0 s d k ∧ y_c0 s d k ≤ 600000000) ∧ -600000000 ≤ y_c1 s d k ∧ y_c1 s d k ≤ 600000000 := ⟨h.2.2.2 0 (Int.le_refl _) n, h.2.2.2 (y_ltr s k d - 1) (by omega) (by omega)⟩
theorem y_cP_b {s : z_M} {l v : Int} (hb : ∀ k d : Int, s 278 l ≤ k → k < s 278 (l + 1) → y_bq s k d) (h : y_cP s l v) : v < 2147483647 := h.elim (fun h => y_np_b h (fun k p q n => (hb k 0 p q).pq n)) (fun h => y_np_b h (fun k p q n => (hb k 1 p q).pq n))
theorem e_cneL {fu : Nat} (hfu : 8589934592 ≤ fu) {s : z_M} (ok : y_OKc s) (lc : y_LBc (y_dc s) s) (h6 : 0 ≤ s 240 6 ∧ s 240 6 ≤ 200) {q : Int} {k : z_M → Int → Int → z_O} {P : z_V → z_M → Prop} (kk : ∀ x v : Int, y_Nw (y_cP s) (s 240 6) v x → z_T (k s x v) P) : ∀ (m F : Nat) (l x v : Int), (m : Int) = s 240 6 - l → m < F → 0 ≤ l → y_Nw (y_cP s) l v x → z_T (fX11_nearest_L20 fu 1 q F s x v l k) P := by
  intro m
  induction m with
  | zero =>
    intro F l x v h1 hF h2 g
    obtain ⟨F, rfl⟩ : ∃ F2, F = F2 + 1 := ⟨F - 1, by omega⟩
    have el : l = s 240 6 := by omega
    subst el
    refine T_of (fX11_nearest_L20.eq_2 ..) ?_
    refine T_if1 v_ob1 ?_
    refine T_let 240 (by decide +kernel) ?_
    refine T_if1 (by decide +kernel) ?_
    refine T_let (s 240 6) rfl ?_
    refine T_if1 (by omega) ?_
    exact kk x v g
  | succ m ih =>
    intro F l x v h1 hF h2 g
    obtain ⟨F, rfl⟩ : ∃ F2, F = F2 + 1 := ⟨F - 1, by omega⟩
    have bb := lc.bb ok.2.2.2.1 h2 (by omega)
    have hb : ∀ (l' : Int), 0 ≤ l' → l' ≤ l → ∀ k d : Int, s 278 l' ≤ k → k < s 278 (l' + 1) → y_bq s k d := fun l' p q k d p1 q1 => lc.bq ok p (by omega) p1 q1
    refine T_of (fX11_nearest_L20.eq_2 ..) ?_
    refine T_if1 v_ob1 ?_
    refine T_let 240 (by decide +kernel) ?_
    refine T_if1 (by decide +kernel) ?_
    refine T_let (s 240 6) rfl ?_
    refine T_if0 (by omega) ?_
    refine T_if1 v_ob1 ?_
    refine T_let 258 (by decide +kernel) ?_
    refine T_if1 (by decide +kernel) ?_
    refine T_useI (e_nearestOn hfu (l := l) (d := 0) ⟨h2, by omega⟩ rfl rfl ⟨bb.2.1, by omega⟩ (fun k p q => hb l h2 (Int.le_refl _) k 0 p q)) (fun v0 s0 hq0 => ?_)
    obtain ⟨rfl, x0, rfl, m0⟩ := hq0
    refine T_vI ?_
    refine T_if1 v_ob1 ?_
    refine T_let 258 (by decide +kernel) ?_
    refine T_if1 (by decide +kernel) ?_
    refine T_useI (e_nearestOn hfu (l := l) (d := 1) ⟨h2, by omega⟩ rfl rfl ⟨bb.2.1, by omega⟩ (fun k p q => hb l h2 (Int.le_refl _) k 1 p q)) (fun v1 s1 hq1 => ?_)
    obtain ⟨rfl, x1, rfl, m1⟩ := hq1
    refine T_vI ?_
    refine T_let (z_min x0 x1) rfl ?_
    refine T_ite (fun hM => ?_) (fun hM => ?_)
    · refine T_of (fX11_nearest_J69.eq_1 ..) ?_
      refine T_let (l + 1) (v_wid (by omega)) ?_
      have mo : y_Mn (y_cP s1 l) (z_min x0 x1) := m0.or m1 (fun v h => y_np_b h (fun k p q n => (hb l h2 (Int.le_refl _) k 0 p q).pq n)) (fun v h => y_np_b h (fun k p q n => (hb l h2 (Int.le_refl _) k 1 p q).pq n))
      exact ih F (l + 1) _ _ (by omega) (by omega) (by omega) ((g.s h2 mo (fun l1 u p q h => y_cP_b (hb l1 p q) h)).1 hM)
    · refine T_of (fX11_nearest_J69.eq_1 ..) ?_
      refine T_let (l + 1) (v_wid (by omega)) ?_
      have mo : y_Mn (y_cP s1 l) (z_min x0 x1) := m0.or m1 (fun v h => y_np_b h (fun k p q n => (hb l h2 (Int.le_refl _) k 0 p q).pq n)) (fun v h => y_np_b h (fun k p q n => (hb l h2 (Int.le_refl _) k 1 p q).pq n))
      exact ih F (l + 1) _ _ (by omega) (by omega) (by omega) ((g.s h2 mo (fun l1 u p q h => y_cP_b (hb l1 p q) h)).2 hM)
theorem e_cnearest {fu : Nat} (hfu : 8589934592 ≤ fu) {s : z_M} (c : z_CI s) (h : y_V3 s) (hy : y_Y4 s) (hk : ∀ sr, y_RF s sr → y_OKc sr) {q : Int} : z_T (fX11_nearest fu s 1 q) (fun v _ => y_QRL s v (0 ≤ q ∧ q ≤ 1) (fun sr x => y_NR (y_cP sr) (sr 240 6) q x)) := by
  refine T_of (fX11_nearest.eq_1 ..) ?_
  refine T_if1 v_ob1 ?_
  refine T_nwn (fun n => T_ret (Or.inl ⟨n, rfl⟩)) (fun h0 h1 => ?_)
  refine T_if1 v_ob1 ?_
  refine T_useN (e_freshY hfu c h hy) (fun v sr hq => ?_)
  obtain ⟨rfl, ry⟩ := hq
  refine T_vN ?_
  have rf := ry.1
  have ok := hk sr rf
  have h6 := CI_b rf.1 (k := 240) (j := 6) bd_240_6
  refine e_cneL hfu ok (ry.2.2.2 ok) h6 (fun x v g => ?_) (sr 240 6).toNat fu 0 _ _ (by omega) (by omega) (Int.le_refl _) (Or.inl ⟨rfl, rfl, fun l u p q => by omega⟩)
  refine T_ite (fun hq => ?_) (fun hq => ?_)
  · refine T_ite (fun hv => ?_) (fun hv => ?_)
    · refine T_of (fX11_nearest_J94.eq_1 ..) ?_
      refine T_ret (Or.inr ⟨⟨h0, h1⟩, sr, x, ry, rfl, v, x, g, ?_⟩)
      rw [if_neg hq, if_neg hv]
    · refine T_of (fX11_nearest_J94.eq_1 ..) ?_
      refine T_ret (Or.inr ⟨⟨h0, h1⟩, sr, 999, ry, rfl, v, x, g, ?_⟩)
      rw [if_neg hq, if_pos (by omega)]
  · refine T_ret (Or.inr ⟨⟨h0, h1⟩, sr, v, ry, rfl, v, x, g, ?_⟩)
    rw [if_pos (by omega)]
