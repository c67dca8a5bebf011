/-! ROWS: what the small methods of Row and LongRow do -/
abbrev z_rw (k : Int) : Prop := z_ob k 7 ∧ z_ob (z_gr k 0) 100 ∧ z_I ((z_sh (z_gr k 0)).2 : Nat)
abbrev z_lr (k : Int) : Prop := z_ob k 4 ∧ z_ob (z_gr k 0) 101 ∧ z_I ((z_sh (z_gr k 0)).2 : Nat)
/-- a row's length -/
def z_ln (k : Int) : Int := ((z_sh (z_gr k 0)).2 : Nat)
def z_rg (s : z_M) (k i : Int) : Int := if 0 ≤ i ∧ i < z_ln k then s (z_gr k 0) i else 0
def z_rp (s : z_M) (k i v : Int) : z_M := if 0 ≤ i ∧ i < z_ln k then z_up s (z_gr k 0) i v else s
theorem z_rp_f {s : z_M} {k i v a b : Int} (h : a ≠ z_gr k 0) : z_rp s k i v a b = s a b := by
  unfold z_rp
  by_cases q : 0 ≤ i ∧ i < z_ln k
  · rw [if_pos q, z_up_k h]
  · rw [if_neg q]
theorem z_rp_j {s : z_M} {k i v a b : Int} (h : b ≠ i) : z_rp s k i v a b = s a b := by
  unfold z_rp
  by_cases q : 0 ≤ i ∧ i < z_ln k
  · rw [if_pos q, z_up_j h]
  · rw [if_neg q]
theorem z_rp_in {s : z_M} {k i v : Int} (h : 0 ≤ i ∧ i < z_ln k) : z_rp s k i v = z_up s (z_gr k 0) i v := if_pos h
theorem z_rp_out {s : z_M} {k i v : Int} (h : ¬ (0 ≤ i ∧ i < z_ln k)) : z_rp s k i v = s := if_neg h
theorem z_rg_in {s : z_M} {k i : Int} (h : 0 ≤ i ∧ i < z_ln k) : z_rg s k i = s (z_gr k 0) i := if_pos h
theorem z_rg_out {s : z_M} {k i : Int} (h : ¬ (0 ≤ i ∧ i < z_ln k)) : z_rg s k i = 0 := if_neg h
section ZR
variable {fu : Nat} {s : z_M} {k i v : Int}
theorem e_get (h : z_rw k) : fX7_get fu s k i = some (vI (z_rg s k i), s) := by
  show (if i < 0 then (some (vI 0, s) : z_O) else (if z_ob k 7 then (if z_ob (z_gr k 0) 100 ∧ z_I ((z_sh (z_gr k 0)).2 : Nat) then (if (((z_sh (z_gr k 0)).2 : Nat) : Int) ≤ i then some (vI 0, s) else (if z_ob k 7 then (if z_ix (z_gr k 0) 100 i then some (vI (s (z_gr k 0) i), s) else none) else none)) else none) else none)) = _
  unfold z_rg z_ln
  by_cases h0 : i < 0
  · rw [if_pos h0, if_neg (by omega)]
  · rw [if_neg h0, if_pos h.1, if_pos h.2]
    by_cases h1 : (((z_sh (z_gr k 0)).2 : Nat) : Int) ≤ i
    · rw [if_pos h1, if_neg (by omega)]
    · rw [if_neg h1, if_pos h.1, if_pos ⟨h.2.1, by omega, by omega⟩, if_pos ⟨by omega, by omega⟩]
theorem e_put (h : z_rw k) : fX7_put fu s k i v = some (vN, z_rp s k i v) := by
  show (if i < 0 then (some (vN, s) : z_O) else (if z_ob k 7 then (if z_ob (z_gr k 0) 100 ∧ z_I ((z_sh (z_gr k 0)).2 : Nat) then (if (((z_sh (z_gr k 0)).2 : Nat) : Int) ≤ i then some (vN, s) else (if z_ob k 7 then (if z_ix (z_gr k 0) 100 i then some (vN, z_up s (z_gr k 0) i v) else none) else none)) else none) else none)) = _
  unfold z_rp z_ln
  by_cases h0 : i < 0
  · rw [if_pos h0, if_neg (by omega)]
  · rw [if_neg h0, if_pos h.1, if_pos h.2]
    by_cases h1 : (((z_sh (z_gr k 0)).2 : Nat) : Int) ≤ i
    · rw [if_pos h1, if_neg (by omega)]
    · rw [if_neg h1, if_pos h.1, if_pos ⟨h.2.1, by omega, by omega⟩, if_pos ⟨by omega, by omega⟩]
theorem e_add (h : z_rw k) : fX7_add fu s k i v = some (vN, z_rp s k i (z_w (z_rg s k i + v))) := by
  show (if i < 0 then (some (vN, s) : z_O) else (if z_ob k 7 then (if z_ob (z_gr k 0) 100 ∧ z_I ((z_sh (z_gr k 0)).2 : Nat) then (if (((z_sh (z_gr k 0)).2 : Nat) : Int) ≤ i then some (vN, s) else (if z_ob k 7 then (if z_ix (z_gr k 0) 100 i then (if z_ix (z_gr k 0) 100 i then some (vN, z_up s (z_gr k 0) i (z_w (s (z_gr k 0) i + v))) else none) else none) else none)) else none) else none)) = _
  unfold z_rp z_rg z_ln
  by_cases h0 : i < 0
  · rw [if_pos h0, if_neg (by omega)]
  · rw [if_neg h0, if_pos h.1, if_pos h.2]
    by_cases h1 : (((z_sh (z_gr k 0)).2 : Nat) : Int) ≤ i
    · rw [if_pos h1, if_neg (by omega)]
    · rw [if_neg h1, if_pos h.1, if_pos ⟨h.2.1, by omega, by omega⟩, if_pos ⟨h.2.1, by omega, by omega⟩, if_pos ⟨by omega, by omega⟩, if_pos ⟨by omega, by omega⟩]
theorem e_lget (h : z_lr k) : fX4_get fu s k i = some (vL (z_rg s k i), s) := by
  show (if i < 0 then (some (vL 0, s) : z_O) else (if z_ob k 4 then (if z_ob (z_gr k 0) 101 ∧ z_I ((z_sh (z_gr k 0)).2 : Nat) then (if (((z_sh (z_gr k 0)).2 : Nat) : Int) ≤ i then some (vL 0, s) else (if z_ob k 4 then (if z_ix (z_gr k 0) 101 i then some (vL (s (z_gr k 0) i), s) else none) else none)) else none) else none)) = _
  unfold z_rg z_ln
  by_cases h0 : i < 0
  · rw [if_pos h0, if_neg (by omega)]
  · rw [if_neg h0, if_pos h.1, if_pos h.2]
    by_cases h1 : (((z_sh (z_gr k 0)).2 : Nat) : Int) ≤ i
    · rw [if_pos h1, if_neg (by omega)]
    · rw [if_neg h1, if_pos h.1, if_pos ⟨h.2.1, by omega, by omega⟩, if_pos ⟨by omega, by omega⟩]
theorem e_lput (h : z_lr k) : fX4_put fu s k i v = some (vN, z_rp s k i v) := by
  show (if i < 0 then (some (vN, s) : z_O) else (if z_ob k 4 then (if z_ob (z_gr k 0) 101 ∧ z_I ((z_sh (z_gr k 0)).2 : Nat) then (if (((z_sh (z_gr k 0)).2 : Nat) : Int) ≤ i then some (vN, s) else (if z_ob k 4 then (if z_ix (z_gr k 0) 101 i then some (vN, z_up s (z_gr k 0) i v) else none) else none)) else none) else none)) = _
  unfold z_rp z_ln
  by_cases h0 : i < 0
  · rw [if_pos h0, if_neg (by omega)]
  · rw [if_neg h0, if_pos h.1, if_pos h.2]
    by_cases h1 : (((z_sh (z_gr k 0)).2 : Nat) : Int) ≤ i
    · rw [if_pos h1, if_neg (by omega)]
    · rw [if_neg h1, if_pos h.1, if_pos ⟨h.2.1, by omega, by omega⟩, if_pos ⟨by omega, by omega⟩]
theorem e_pick {t : Nat} {j : Int} (ht : t < 3) : fX11_pick fu s t j = some (vI (if 0 ≤ j ∧ j < 9 then z_tb t j.toNat else 0), s) := by
  show (if j < 0 then (some (vI 0, s) : z_O) else (if t < 3 then (if (9 : Int) ≤ j then some (vI 0, s) else (if t < 3 ∧ 0 ≤ j ∧ j < 9 then some (vI (z_tb t j.toNat), s) else none)) else none)) = _
  by_cases h0 : j < 0
  · rw [if_pos h0, if_neg (by omega)]
  · rw [if_neg h0, if_pos ht]
    by_cases h1 : (9 : Int) ≤ j
    · rw [if_pos h1, if_neg (by omega)]
    · rw [if_neg h1, if_pos ⟨ht, by omega, by omega⟩, if_pos ⟨by omega, by omega⟩]
end ZR
/-- n cells of a row out of another row, from place 0 on -/
def z_cp (s : z_M) (k k2 n : Int) : z_M := fun a b => if a = z_gr k 0 ∧ 0 ≤ b ∧ b < n ∧ b < z_ln k then z_rg s k2 b else s a b
theorem z_cp0 {s : z_M} {k k2 : Int} : z_cp s k k2 0 = s := funext fun a => funext fun b => if_neg (by omega)
theorem z_cp_step {s : z_M} {k k2 i : Int} (h : z_gr k 0 ≠ z_gr k2 0) (h0 : 0 ≤ i) : z_rp (z_cp s k k2 i) k i (z_rg (z_cp s k k2 i) k2 i) = z_cp s k k2 (i + 1) := by
  have e : z_rg (z_cp s k k2 i) k2 i = z_rg s k2 i := by
    unfold z_rg
    by_cases q : 0 ≤ i ∧ i < z_ln k2
    · rw [if_pos q, if_pos q]
      exact if_neg fun r => h r.1.symm
    · rw [if_neg q, if_neg q]
  rw [e]
  funext a b
  unfold z_rp z_cp
  by_cases q : 0 ≤ i ∧ i < z_ln k
  · rw [if_pos q]
    by_cases r : a = z_gr k 0 ∧ b = i
    · rw [r.1, r.2, z_up_s, if_pos ⟨rfl, h0, by omega, q.2⟩]
    · show (if a = z_gr k 0 ∧ b = i then _ else _) = _
      rw [if_neg r]
      dsimp only
      by_cases r2 : a = z_gr k 0 ∧ 0 ≤ b ∧ b < i ∧ b < z_ln k
      · rw [if_pos r2, if_pos ⟨r2.1, r2.2.1, by omega, r2.2.2.2⟩]
      · rw [if_neg r2, if_neg fun r3 => ?_]
        by_cases r4 : b = i
        · exact r ⟨r3.1, r4⟩
        · exact r2 ⟨r3.1, r3.2.1, by omega, r3.2.2.2⟩
  · rw [if_neg q]
    by_cases r2 : a = z_gr k 0 ∧ 0 ≤ b ∧ b < i ∧ b < z_ln k
    · rw [if_pos r2, if_pos ⟨r2.1, r2.2.1, by omega, r2.2.2.2⟩]
    · rw [if_neg r2, if_neg fun r3 => r2 ⟨r3.1, r3.2.1, by omega, r3.2.2.2⟩]
theorem e_copyL {fu : Nat} {s : z_M} {k k2 n : Int} {kk : z_M → z_O} (hk : z_rw k) (hk2 : z_rw k2) (h : z_gr k 0 ≠ z_gr k2 0) (hn : n ≤ 2147483647) : ∀ (m F : Nat) (i : Int), (m : Int) = n - i → m < F → 0 ≤ i → fX7_copyFrom_L2 fu k k2 n F (z_cp s k k2 i) i kk = kk (z_cp s k k2 n) := by
  intro m
  induction m with
  | zero =>
    intro F i h1 h2 h3
    obtain ⟨F, rfl⟩ : ∃ F2, F = F2 + 1 := ⟨F - 1, by omega⟩
    rw [fX7_copyFrom_L2, if_pos (by omega)]
    have e : i = n := by omega
    rw [e]
  | succ m ih =>
    intro F i h1 h2 h3
    obtain ⟨F, rfl⟩ : ∃ F2, F = F2 + 1 := ⟨F - 1, by omega⟩
    rw [fX7_copyFrom_L2, if_neg (by omega), if_pos hk2.1, e_get hk2]
    show (if z_ob k 7 then z_bN (fX7_put fu (z_cp s k k2 i) k i (z_rg (z_cp s k k2 i) k2 i)) _ else none) = _
    rw [if_pos hk.1, e_put hk, z_cp_step h h3]
    show fX7_copyFrom_L2 fu k k2 n F (z_cp s k k2 (i + 1)) (z_w (i + 1)) kk = _
    rw [z_wid (show z_I (i + 1) by unfold z_I; omega)]
    exact ih F (i + 1) (by omega) (by omega) (by omega)
theorem e_copy {fu : Nat} {s : z_M} {k k2 n : Int} (hfu : 8589934592 ≤ fu) (hk : z_rw k) (hk2 : z_rw k2) (h : z_gr k 0 ≠ z_gr k2 0) (hn : n ≤ 2147483647) : fX7_copyFrom fu s k k2 n = some (vN, z_cp s k k2 n) := by
  unfold fX7_copyFrom
  by_cases h0 : 0 ≤ n
  · have := e_copyL (fu := fu) (s := s) (kk := fun s5 => some (vN, s5)) hk hk2 h hn n.toNat fu 0 (by omega) (by omega) (by omega)
    rw [z_cp0] at this
    exact this
  · obtain ⟨F, rfl⟩ : ∃ F2, fu = F2 + 1 := ⟨fu - 1, by omega⟩
    rw [fX7_copyFrom_L2, if_pos (by omega)]
    have e : z_cp s k k2 n = s := funext fun a => funext fun b => if_neg (by omega)
    rw [e]
theorem e_lcopyL {fu : Nat} {s : z_M} {k k2 n : Int} {kk : z_M → z_O} (hk : z_lr k) (hk2 : z_lr k2) (h : z_gr k 0 ≠ z_gr k2 0) (hn : n ≤ 2147483647) : ∀ (m F : Nat) (i : Int), (m : Int) = n - i → m < F → 0 ≤ i → fX4_copyFrom_L2 fu k k2 n F (z_cp s k k2 i) i kk = kk (z_cp s k k2 n) := by
  intro m
  induction m with
  | zero =>
    intro F i h1 h2 h3
    obtain ⟨F, rfl⟩ : ∃ F2, F = F2 + 1 := ⟨F - 1, by omega⟩
    rw [fX4_copyFrom_L2, if_pos (by omega)]
    have e : i = n := by omega
    rw [e]
  | succ m ih =>
    intro F i h1 h2 h3
    obtain ⟨F, rfl⟩ : ∃ F2, F = F2 + 1 := ⟨F - 1, by omega⟩
    rw [fX4_copyFrom_L2, if_neg (by omega), if_pos hk2.1, e_lget hk2]
    show (if z_ob k 4 then z_bN (fX4_put fu (z_cp s k k2 i) k i (z_rg (z_cp s k k2 i) k2 i)) _ else none) = _
    rw [if_pos hk.1, e_lput hk, z_cp_step h h3]
    show fX4_copyFrom_L2 fu k k2 n F (z_cp s k k2 (i + 1)) (z_w (i + 1)) kk = _
    rw [z_wid (show z_I (i + 1) by unfold z_I; omega)]
    exact ih F (i + 1) (by omega) (by omega) (by omega)
theorem e_lcopy {fu : Nat} {s : z_M} {k k2 n : Int} (hfu : 8589934592 ≤ fu) (hk : z_lr k) (hk2 : z_lr k2) (h : z_gr k 0 ≠ z_gr k2 0) (hn : n ≤ 2147483647) : fX4_copyFrom fu s k k2 n = some (vN, z_cp s k k2 n) := by
  unfold fX4_copyFrom
  by_cases h0 : 0 ≤ n
  · have := e_lcopyL (fu := fu) (s := s) (kk := fun s5 => some (vN, s5)) hk hk2 h hn n.toNat fu 0 (by omega) (by omega) (by omega)
    rw [z_cp0] at this
    exact this
  · obtain ⟨F, rfl⟩ : ∃ F2, fu = F2 + 1 := ⟨fu - 1, by omega⟩
    rw [fX4_copyFrom_L2, if_pos (by omega)]
    have e : z_cp s k k2 n = s := funext fun a => funext fun b => if_neg (by omega)
    rw [e]
/-- n cells of a row are 0, from place 0 on -/
def z_cl (s : z_M) (k n : Int) : z_M := fun a b => if a = z_gr k 0 ∧ 0 ≤ b ∧ b < n ∧ b < z_ln k then 0 else s a b
theorem z_cl_step {s : z_M} {k i : Int} (h0 : 0 ≤ i) : z_rp (z_cl s k i) k i 0 = z_cl s k (i + 1) := by
  funext a b
  unfold z_rp z_cl
  by_cases q : 0 ≤ i ∧ i < z_ln k
  · rw [if_pos q]
    by_cases r : a = z_gr k 0 ∧ b = i
    · rw [r.1, r.2, z_up_s, if_pos ⟨rfl, h0, by omega, q.2⟩]
    · show (if a = z_gr k 0 ∧ b = i then _ else _) = _
      rw [if_neg r]
      dsimp only
      by_cases r2 : a = z_gr k 0 ∧ 0 ≤ b ∧ b < i ∧ b < z_ln k
      · rw [if_pos r2, if_pos ⟨r2.1, r2.2.1, by omega, r2.2.2.2⟩]
      · rw [if_neg r2, if_neg fun r3 => ?_]
        by_cases r4 : b = i
        · exact r ⟨r3.1, r4⟩
        · exact r2 ⟨r3.1, r3.2.1, by omega, r3.2.2.2⟩
  · rw [if_neg q]
    by_cases r2 : a = z_gr k 0 ∧ 0 ≤ b ∧ b < i ∧ b < z_ln k
    · rw [if_pos r2, if_pos ⟨r2.1, r2.2.1, by omega, r2.2.2.2⟩]
    · rw [if_neg r2, if_neg fun r3 => r2 ⟨r3.1, r3.2.1, by omega, r3.2.2.2⟩]
theorem e_clearL {fu : Nat} {s : z_M} {k n : Int} {kk : z_M → z_O} (hk : z_rw k) (hn : n ≤ 2147483647) : ∀ (m F : Nat) (i : Int), (m : Int) = n - i → m < F → 0 ≤ i → fX7_clear_L2 fu k n F (z_cl s k i) i kk = kk (z_cl s k n) := by
  intro m
  induction m with
  | zero =>
    intro F i h1 h2 h3
    obtain ⟨F, rfl⟩ : ∃ F2, F = F2 + 1 := ⟨F - 1, by omega⟩
    rw [fX7_clear_L2, if_pos (by omega)]
    have e : i = n := by omega
    rw [e]
  | succ m ih =>
    intro F i h1 h2 h3
    obtain ⟨F, rfl⟩ : ∃ F2, F = F2 + 1 := ⟨F - 1, by omega⟩
    rw [fX7_clear_L2, if_neg (by omega), if_pos hk.1, e_put hk, z_cl_step h3]
    show fX7_clear_L2 fu k n F (z_cl s k (i + 1)) (z_w (i + 1)) kk = _
    rw [z_wid (show z_I (i + 1) by unfold z_I; omega)]
    exact ih F (i + 1) (by omega) (by omega) (by omega)
theorem e_clear {fu : Nat} {s : z_M} {k n : Int} (hfu : 8589934592 ≤ fu) (hk : z_rw k) (hn : n ≤ 2147483647) : fX7_clear fu s k n = some (vN, z_cl s k n) := by
  unfold fX7_clear
  have e0 : z_cl s k 0 = s := funext fun a => funext fun b => if_neg (by omega)
  by_cases h0 : 0 ≤ n
  · have := e_clearL (fu := fu) (s := s) (kk := fun s3 => some (vN, s3)) hk hn n.toNat fu 0 (by omega) (by omega) (by omega)
    rw [e0] at this
    exact this
  · obtain ⟨F, rfl⟩ : ∃ F2, fu = F2 + 1 := ⟨fu - 1, by omega⟩
    rw [fX7_clear_L2, if_pos (by omega)]
    have e : z_cl s k n = s := funext fun a => funext fun b => if_neg (by omega)
    rw [e]
/-- the cells from t on to i of a row, moved down to f -/
def z_cs (s : z_M) (k f t i : Int) : z_M := fun a b => if a = z_gr k 0 ∧ f ≤ b ∧ b < f + (i - t) ∧ b < z_ln k then z_rg s k (b + (t - f)) else s a b
theorem z_cs_step {s : z_M} {k f t i : Int} (hf : 0 ≤ f) (hft : f ≤ t) (hi : t ≤ i) : z_rp (z_cs s k f t i) k (f + (i - t)) (z_rg (z_cs s k f t i) k i) = z_cs s k f t (i + 1) := by
  have e : z_rg (z_cs s k f t i) k i = z_rg s k i := by
    unfold z_rg
    by_cases q : 0 ≤ i ∧ i < z_ln k
    · rw [if_pos q, if_pos q]
      exact if_neg fun r => by omega
    · rw [if_neg q, if_neg q]
  rw [e]
  funext a b
  unfold z_rp z_cs
  by_cases q : 0 ≤ f + (i - t) ∧ f + (i - t) < z_ln k
  · rw [if_pos q]
    by_cases r : a = z_gr k 0 ∧ b = f + (i - t)
    · rw [r.1, r.2, z_up_s, if_pos ⟨rfl, by omega, by omega, q.2⟩]
      have e2 : f + (i - t) + (t - f) = i := by omega
      rw [e2]
    · show (if a = z_gr k 0 ∧ b = f + (i - t) then _ else _) = _
      rw [if_neg r]
      dsimp only
      by_cases r2 : a = z_gr k 0 ∧ f ≤ b ∧ b < f + (i - t) ∧ b < z_ln k
      · rw [if_pos r2, if_pos ⟨r2.1, r2.2.1, by omega, r2.2.2.2⟩]
      · rw [if_neg r2, if_neg fun r3 => ?_]
        by_cases r4 : b = f + (i - t)
        · exact r ⟨r3.1, r4⟩
        · exact r2 ⟨r3.1, r3.2.1, by omega, r3.2.2.2⟩
  · rw [if_neg q]
    by_cases r2 : a = z_gr k 0 ∧ f ≤ b ∧ b < f + (i - t) ∧ b < z_ln k
    · rw [if_pos r2, if_pos ⟨r2.1, r2.2.1, by omega, r2.2.2.2⟩]
    · rw [if_neg r2, if_neg fun r3 => r2 ⟨r3.1, r3.2.1, by omega, r3.2.2.2⟩]
theorem e_closeL {fu : Nat} {s : z_M} {k f t n : Int} {kk : z_M → z_O} (hk : z_rw k) (hf : 0 ≤ f) (hft : f ≤ t) (hn : n ≤ 1000000) : ∀ (m F : Nat) (i : Int), (m : Int) = n - i → m < F → t ≤ i → fX7_close_L3 fu k f t n F (z_cs s k f t i) i kk = kk (z_cs s k f t n) := by
  intro m
  induction m with
  | zero =>
    intro F i h1 h2 h3
    obtain ⟨F, rfl⟩ : ∃ F2, F = F2 + 1 := ⟨F - 1, by omega⟩
    rw [fX7_close_L3, if_pos (by omega)]
    have e : i = n := by omega
    rw [e]
  | succ m ih =>
    intro F i h1 h2 h3
    obtain ⟨F, rfl⟩ : ∃ F2, F = F2 + 1 := ⟨F - 1, by omega⟩
    rw [fX7_close_L3, if_neg (by omega)]
    show (if z_ob k 7 then z_bI (fX7_get fu (z_cs s k f t i) k i) _ else none) = _
    rw [if_pos hk.1, e_get hk]
    show (if z_ob k 7 then z_bN (fX7_put fu (z_cs s k f t i) k (z_w (z_w (f + i) - t)) (z_rg (z_cs s k f t i) k i)) _ else none) = _
    have e1 : z_w (z_w (f + i) - t) = f + (i - t) := by unfold z_w; omega
    rw [if_pos hk.1, e1, e_put hk, z_cs_step hf hft h3]
    show fX7_close_L3 fu k f t n F (z_cs s k f t (i + 1)) (z_w (i + 1)) kk = _
    rw [z_wid (show z_I (i + 1) by unfold z_I; omega)]
    exact ih F (i + 1) (by omega) (by omega) (by omega)
theorem e_close {fu : Nat} {s : z_M} {k f t n : Int} (hfu : 8589934592 ≤ fu) (hk : z_rw k) (hf : 0 ≤ f) (hft : f ≤ t) (hn : n ≤ 1000000) : fX7_close fu s k f t n = some (vN, z_cs s k f t n) := by
  unfold fX7_close
  have e0 : z_cs s k f t t = s := funext fun a => funext fun b => if_neg (by omega)
  by_cases h0 : t ≤ n
  · have := e_closeL (fu := fu) (s := s) (kk := fun s7 => some (vN, s7)) hk hf hft hn (n - t).toNat fu t (by omega) (by omega) (by omega)
    rw [e0] at this
    exact this
  · obtain ⟨F, rfl⟩ : ∃ F2, fu = F2 + 1 := ⟨fu - 1, by omega⟩
    rw [fX7_close_L3, if_pos (by omega)]
    have e : z_cs s k f t n = s := funext fun a => funext fun b => if_neg (by omega)
    rw [e]
theorem e_lcloseL {fu : Nat} {s : z_M} {k f t n : Int} {kk : z_M → z_O} (hk : z_lr k) (hf : 0 ≤ f) (hft : f ≤ t) (hn : n ≤ 1000000) : ∀ (m F : Nat) (i : Int), (m : Int) = n - i → m < F → t ≤ i → fX4_close_L3 fu k f t n F (z_cs s k f t i) i kk = kk (z_cs s k f t n) := by
  intro m
  induction m with
  | zero =>
    intro F i h1 h2 h3
    obtain ⟨F, rfl⟩ : ∃ F2, F = F2 + 1 := ⟨F - 1, by omega⟩
    rw [fX4_close_L3, if_pos (by omega)]
    have e : i = n := by omega
    rw [e]
  | succ m ih =>
    intro F i h1 h2 h3
    obtain ⟨F, rfl⟩ : ∃ F2, F = F2 + 1 := ⟨F - 1, by omega⟩
    rw [fX4_close_L3, if_neg (by omega)]
    show (if z_ob k 4 then z_bL (fX4_get fu (z_cs s k f t i) k i) _ else none) = _
    rw [if_pos hk.1, e_lget hk]
    show (if z_ob k 4 then z_bN (fX4_put fu (z_cs s k f t i) k (z_w (z_w (f + i) - t)) (z_rg (z_cs s k f t i) k i)) _ else none) = _
    have e1 : z_w (z_w (f + i) - t) = f + (i - t) := by unfold z_w; omega
    rw [if_pos hk.1, e1, e_lput hk, z_cs_step hf hft h3]
    show fX4_close_L3 fu k f t n F (z_cs s k f t (i + 1)) (z_w (i + 1)) kk = _
    rw [z_wid (show z_I (i + 1) by unfold z_I; omega)]
    exact ih F (i + 1) (by omega) (by omega) (by omega)
theorem e_lclose {fu : Nat} {s : z_M} {k f t n : Int} (hfu : 8589934592 ≤ fu) (hk : z_lr k) (hf : 0 ≤ f) (hft : f ≤ t) (hn : n ≤ 1000000) : fX4_close fu s k f t n = some (vN, z_cs s k f t n) := by
  unfold fX4_close
  have e0 : z_cs s k f t t = s := funext fun a => funext fun b => if_neg (by omega)
  by_cases h0 : t ≤ n
  · have := e_lcloseL (fu := fu) (s := s) (kk := fun s7 => some (vN, s7)) hk hf hft hn (n - t).toNat fu t (by omega) (by omega) (by omega)
    rw [e0] at this
    exact this
  · obtain ⟨F, rfl⟩ : ∃ F2, fu = F2 + 1 := ⟨fu - 1, by omega⟩
    rw [fX4_close_L3, if_pos (by omega)]
    have e : z_cs s k f t n = s := funext fun a => funext fun b => if_neg (by omega)
    rw [e]
