theorem w_r256 : z_rw 256 ∧ z_gr 256 0 = 257 ∧ z_ln 256 = 201 := by decide +kernel
/-! moves: how many signs stand in another line, once upright signs turn (or don't) -/
/-- the line of a unit, lines begin as r tells -/
def y_nl (r : Int → Int) : Nat → Int → Int
  | 0 => fun _ => 0
  | k + 1 => fun u => if r k ≤ u then k else y_nl r k u
theorem y_nl_s {r : Int → Int} {k : Nat} {u : Int} : y_nl r (k + 1) u = if r k ≤ u then (k : Int) else y_nl r k u := rfl
theorem y_nl_at {r : Int → Int} {n : Int} : ∀ c : Nat, (∀ i : Int, 0 ≤ i → i < c → 0 ≤ r i ∧ r i < r (i + 1) ∧ r (i + 1) ≤ n) → ∀ l u : Int, 0 ≤ l → l < c → r l ≤ u → u < r (l + 1) → y_nl r c u = l := by
  intro c
  induction c with
  | zero => intro _ l u h0 h1; omega
  | succ c ih =>
    intro h l u h0 h1 h2 h3
    rw [y_nl_s]
    by_cases z : l = (c : Int)
    · rw [if_pos (by rw [← z]; exact h2), z]
    · have e := y_r_le (r := r) (c := ((c + 1 : Nat) : Int)) (fun i a b => by have q := h i a b; omega) ((c : Int) - (l + 1)).toNat (l + 1) c (by omega) (by omega) (by omega)
      rw [if_neg (by omega)]
      exact ih (fun i a b => h i a (by omega)) l u h0 (by omega) h2 h3
/-- signs of units whose line isn't the same -/
def y_mF (a b C : Int → Int) (u : Int) : Int := if a u ≠ b u then C u else 0
theorem y_mF_b {a b C : Int → Int} {n : Int} (h : ∀ u : Int, 0 ≤ u → u < n → 0 ≤ C u ∧ C u ≤ 200) {u : Int} (h0 : 0 ≤ u) (h1 : u ≤ n) : 0 ≤ y_su (y_mF a b C) 0 u ∧ y_su (y_mF a b C) 0 u ≤ 200 * u := by
  have r := y_sum_r (f := y_mF a b C) (a := 0) (m := 200) (u - 0).toNat (fun i p q => by
    have z := h i p (by omega)
    unfold y_mF
    split
    · exact z
    · decide)
  unfold y_su
  omega
theorem e_movU {fu : Nat} {s : z_M} {l n : Int} {nl : Int → Int} (hl : 0 ≤ l ∧ l < 200) (h0 : 0 ≤ s 257 l) (hb : s 257 (l + 1) ≤ n) (hn : n ≤ 200) (hC : ∀ u : Int, 0 ≤ u → u < n → 0 ≤ s 197 u ∧ s 197 u ≤ 200) (hnl : ∀ u : Int, s 257 l ≤ u → u < s 257 (l + 1) → nl u = l) {k : z_M → Int → z_O} {P : z_V → z_M → Prop} (hk : z_T (k s (y_su (y_mF (s 260) nl (s 197)) 0 (s 257 (l + 1)))) P) : ∀ (m F : Nat) (u : Int), (m : Int) = s 257 (l + 1) - u → m < F → s 257 l ≤ u → z_T (fX1_movedFrom_L22 fu 249 259 l F s (y_su (y_mF (s 260) nl (s 197)) 0 u) u k) P := by
  intro m
  induction m with
  | zero =>
    intro F u h1 hF h2
    obtain ⟨F, rfl⟩ : ∃ F2, F = F2 + 1 := ⟨F - 1, by omega⟩
    have eu : u = s 257 (l + 1) := by omega
    refine T_of (fX1_movedFrom_L22.eq_2 ..) ?_
    refine T_if1 (by decide +kernel) ?_
    refine T_let 256 (by decide +kernel) ?_
    refine T_let (l + 1) (v_wid (by omega)) ?_
    refine T_if1 (by decide +kernel) ?_
    refine T_getV w_r256 (by omega) rfl ?_
    refine T_if1 (by omega) ?_
    rw [eu]
    exact hk
  | succ m ih =>
    intro F u h1 hF h2
    obtain ⟨F, rfl⟩ : ∃ F2, F = F2 + 1 := ⟨F - 1, by omega⟩
    have b1 := y_mF_b (a := s 260) (b := nl) hC (u := u) (by omega) (by omega)
    have cu := hC u (by omega) (by omega)
    have en := hnl u h2 (by omega)
    have es := y_suS (f := y_mF (s 260) nl (s 197)) (a := 0) (u := u) (by omega)
    have fin : ∀ z : Int, z = y_mF (s 260) nl (s 197) u → 0 ≤ z ∧ z ≤ 200 → z_T (fX1_movedFrom_J64 fu s 249 259 l u (y_su (y_mF (s 260) nl (s 197)) 0 u) z (fun w v2 v4 => fX1_movedFrom_L22 fu 249 259 l F w v2 v4 k) k) P := fun z e zb => by
      refine T_of (fX1_movedFrom_J64.eq_1 ..) ?_
      refine T_let (y_su (y_mF (s 260) nl (s 197)) 0 (u + 1)) (by rw [es, ← e]; exact v_wid (by omega)) ?_
      refine T_let (u + 1) (v_wid (by omega)) ?_
      exact ih F (u + 1) (by omega) (by omega) (by omega)
    refine T_of (fX1_movedFrom_L22.eq_2 ..) ?_
    refine T_if1 (by decide +kernel) ?_
    refine T_let 256 (by decide +kernel) ?_
    refine T_let (l + 1) (v_wid (by omega)) ?_
    refine T_if1 (by decide +kernel) ?_
    refine T_getV w_r256 (by omega) rfl ?_
    refine T_if0 (by omega) ?_
    refine T_if1 (by decide +kernel) ?_
    refine T_getV w_r259 (by omega) rfl ?_
    refine T_ite (fun hd => ?_) (fun hd => ?_)
    · refine T_if1 (by decide +kernel) ?_
      refine T_let 191 (by decide +kernel) ?_
      refine T_if1 v_ob191 ?_
      refine T_let 196 (by decide +kernel) ?_
      refine T_if1 (by decide +kernel) ?_
      refine T_getV w_r196 (by omega) rfl ?_
      exact fin (s 197 u) (by unfold y_mF; rw [if_pos (by rw [en]; exact hd)]) cu
    · exact fin 0 (by unfold y_mF; rw [if_neg (by rw [en]; exact hd)]) ⟨by decide, by decide⟩
theorem e_movL {fu : Nat} (hfu : 8589934592 ≤ fu) {s : z_M} {n c : Int} {nl : Int → Int} (hc : s 249 6 = c) (c2 : 0 ≤ c ∧ c ≤ 200) (hr : ∀ i : Int, 0 ≤ i → i < c → 0 ≤ s 257 i ∧ s 257 i < s 257 (i + 1) ∧ s 257 (i + 1) ≤ n) (hn : n ≤ 200) (hC : ∀ u : Int, 0 ≤ u → u < n → 0 ≤ s 197 u ∧ s 197 u ≤ 200) (hnl : ∀ l u : Int, 0 ≤ l → l < c → s 257 l ≤ u → u < s 257 (l + 1) → nl u = l) {k : z_M → Int → z_O} {P : z_V → z_M → Prop} (hk : z_T (k s (y_su (y_mF (s 260) nl (s 197)) 0 (s 257 c))) P) : ∀ (m F : Nat) (l : Int), (m : Int) = c - l → m < F → 0 ≤ l → z_T (fX1_movedFrom_L4 fu 249 259 F s (y_su (y_mF (s 260) nl (s 197)) 0 (s 257 l)) l k) P := by
  intro m
  induction m with
  | zero =>
    intro F l h1 hF h2
    obtain ⟨F, rfl⟩ : ∃ F2, F = F2 + 1 := ⟨F - 1, by omega⟩
    have el : l = c := by omega
    refine T_of (fX1_movedFrom_L4.eq_2 ..) ?_
    refine T_if1 (by decide +kernel) ?_
    refine T_let c hc ?_
    refine T_if1 (by omega) ?_
    rw [el]
    exact hk
  | succ m ih =>
    intro F l h1 hF h2
    obtain ⟨F, rfl⟩ : ∃ F2, F = F2 + 1 := ⟨F - 1, by omega⟩
    have rl := hr l h2 (by omega)
    refine T_of (fX1_movedFrom_L4.eq_2 ..) ?_
    refine T_if1 (by decide +kernel) ?_
    refine T_let c hc ?_
    refine T_if0 (by omega) ?_
    refine T_if1 (by decide +kernel) ?_
    refine T_let 256 (by decide +kernel) ?_
    refine T_if1 (by decide +kernel) ?_
    refine T_getV w_r256 (by omega) rfl ?_
    refine e_movU ⟨h2, by omega⟩ rl.1 rl.2.2 hn hC (fun u p q => hnl l u h2 (by omega) p q) ?_ (s 257 (l + 1) - s 257 l).toNat fu (s 257 l) (by omega) (by omega) (Int.le_refl _)
    refine T_let (l + 1) (v_wid (by omega)) ?_
    exact ih F (l + 1) (by omega) (by omega) (by omega)
theorem e_movedFrom {fu : Nat} (hfu : 8589934592 ≤ fu) {s : z_M} {n c : Int} {nl : Int → Int} (hc : s 249 6 = c) (c2 : 0 ≤ c ∧ c ≤ 200) (hr : ∀ i : Int, 0 ≤ i → i < c → 0 ≤ s 257 i ∧ s 257 i < s 257 (i + 1) ∧ s 257 (i + 1) ≤ n) (r0 : s 257 0 = 0) (rc : s 257 c = n) (hn : n ≤ 200) (hC : ∀ u : Int, 0 ≤ u → u < n → 0 ≤ s 197 u ∧ s 197 u ≤ 200) (hnl : ∀ l u : Int, 0 ≤ l → l < c → s 257 l ≤ u → u < s 257 (l + 1) → nl u = l) : z_T (fX1_movedFrom fu s 249 259) (fun v s' => v = vI (y_su (y_mF (s 260) nl (s 197)) 0 n) ∧ s' = s) := by
  refine T_of (fX1_movedFrom.eq_1 ..) ?_
  have g := e_movL hfu hc c2 hr hn hC hnl (k := fun s20 x21 => some (vI x21, s20)) (P := fun v s' => v = vI (y_su (y_mF (s 260) nl (s 197)) 0 n) ∧ s' = s) (T_ret ⟨by rw [rc], rfl⟩) c.toNat fu 0 (by omega) (by omega) (Int.le_refl 0)
  rw [r0, y_su0] at g
  exact g
