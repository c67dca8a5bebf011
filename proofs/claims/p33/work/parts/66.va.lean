/-! VALUES of the class, when its units are fresh -/
def y_RF (s sr : z_M) : Prop := z_CI sr ∧ y_U2 sr ∧ (∀ a b : Int, 2 ≤ a → a ≤ 190 → sr a b = s a b) ∧ (∀ a b : Int, 309 ≤ a → sr a b = s a b)
theorem e_fresh {fu : Nat} (hfu : 8589934592 ≤ fu) {s : z_M} (c : z_CI s) (h : y_V2 s) : z_T (fX11_refresh fu s 1) (fun v s' => v = vN ∧ y_RF s s') := by
  refine T_mono (sf_X11_refresh_1D hfu s c h) (fun v s' q => ?_)
  obtain ⟨c1, f, u, e⟩ := q
  exact ⟨e, c1, u, fun a b p q => f a b (by unfold R_X11_refresh_1; omega), fun a b p => f a b (by unfold R_X11_refresh_1; omega)⟩
/-- an answer, or a refusal that is told before all else -/
def y_QA (s : z_M) (v : z_V) (ok : Prop) (F : z_M → Int) : Prop := (¬ ok ∧ v = vX 1) ∨ (ok ∧ ∃ sr, y_RF s sr ∧ v = vI (F sr))
/-- of one number that must be there, and others that must be in range -/
def y_Q0 (s : z_M) (v : z_V) (ok0 ok1 : z_M → Prop) (F : z_M → Int) : Prop := ∃ sr, y_RF s sr ∧ ((¬ ok0 sr ∧ v = vX 0) ∨ (ok0 sr ∧ ¬ ok1 sr ∧ v = vX 1) ∨ (ok0 sr ∧ ok1 sr ∧ v = vI (F sr)))
def y_VX (e0 e1 : Int) (s' : z_M) (v0 : z_V) (x : Int) : Prop := (v0 = vX 0 ∧ x = e0) ∨ (v0 = vX 1 ∧ x = e1) ∨ ∃ z, v0 = vI z ∧ x = 0 ∧ s' 7658 0 = z
def y_A2 (s' : z_M) (ok0 ok1 : Prop) (y z : Int) : Prop := (¬ ok0 ∧ s' 309 0 = 1) ∨ (ok0 ∧ ¬ ok1 ∧ s' 309 0 = 2) ∨ (ok0 ∧ ok1 ∧ s' 309 0 = 0 ∧ y = z)
theorem y_X01 (h : vX 0 = vX 1) : False := absurd (show (0 : Int) = 1 from congrArg Prod.snd h) (by decide)
theorem y_J1 {s s1 s2 : z_M} {v0 : z_V} {ok : Prop} {F : z_M → Int} {x y z : Int} (q : y_QA s v0 ok F) (vx : y_VX 0 1 s1 v0 x) (a : y_A1 s2 ok y z) (o : s2 7658 0 = s1 7658 0) (e : ∀ sr, ok → y_RF s sr → F sr = z) : s2 309 0 = x ∧ (x = 0 → s2 7658 0 = y) := by
  rcases q with ⟨n, rfl⟩ | ⟨k, sr, rf, rfl⟩
  · rcases a with ⟨_, a⟩ | ⟨k, _⟩
    · rcases vx with ⟨w, _⟩ | ⟨_, rfl⟩ | ⟨w, hw, _⟩
      · exact (y_X01 w.symm).elim
      · exact ⟨a, fun q => absurd q (by decide)⟩
      · exact (y_XI hw).elim
    · exact absurd k n
  · rcases a with ⟨n, _⟩ | ⟨_, a, rfl⟩
    · exact absurd k n
    · rcases vx with ⟨w, _⟩ | ⟨w, _⟩ | ⟨w, hw, hx, ho⟩
      · exact (y_XI w.symm).elim
      · exact (y_XI w.symm).elim
      · have e2 : F sr = w := congrArg Prod.snd hw
        exact ⟨a.trans hx.symm, fun _ => by rw [o, ho, ← e2]; exact e sr k rf⟩
theorem y_J0 {s s1 s2 : z_M} {v0 : z_V} {ok0 ok1 : z_M → Prop} {p0 p1 : Prop} {F : z_M → Int} {e1 x y z : Int} (q : y_Q0 s v0 ok0 ok1 F) (vx : y_VX 1 2 s1 v0 x) (a : y_A2 s2 p0 p1 y z) (o : s2 7658 0 = s1 7658 0) (h0 : ∀ sr, y_RF s sr → (ok0 sr ↔ p0)) (h1 : ∀ sr, y_RF s sr → (ok1 sr ↔ p1)) (e : ∀ sr, p0 → p1 → y_RF s sr → F sr = z) : s2 309 0 = x ∧ (x = 0 → s2 7658 0 = y) := by
  obtain ⟨sr, rf, q⟩ := q
  rw [h0 sr rf, h1 sr rf] at q
  rcases q with ⟨n, rfl⟩ | ⟨k, n, rfl⟩ | ⟨k, k1, rfl⟩
  · rcases a with ⟨_, a⟩ | ⟨k, _⟩ | ⟨k, _⟩
    · rcases vx with ⟨_, rfl⟩ | ⟨w, _⟩ | ⟨w, hw, _⟩
      · exact ⟨a, fun q => absurd q (by decide)⟩
      · exact (y_X01 w).elim
      · exact (y_XI hw).elim
    · exact absurd k n
    · exact absurd k n
  · rcases a with ⟨n0, _⟩ | ⟨_, _, a⟩ | ⟨_, k1, _⟩
    · exact absurd k n0
    · rcases vx with ⟨w, _⟩ | ⟨_, rfl⟩ | ⟨w, hw, _⟩
      · exact (y_X01 w.symm).elim
      · exact ⟨a, fun q => absurd q (by decide)⟩
      · exact (y_XI hw).elim
    · exact absurd k1 n
  · rcases a with ⟨n, _⟩ | ⟨_, n, _⟩ | ⟨_, _, a, rfl⟩
    · exact absurd k n
    · exact absurd k1 n
    · rcases vx with ⟨w, _⟩ | ⟨w, _⟩ | ⟨w, hw, hx, ho⟩
      · exact (y_XI w.symm).elim
      · exact (y_XI w.symm).elim
      · have e2 : F sr = w := congrArg Prod.snd hw
        exact ⟨a.trans hx.symm, fun _ => by rw [o, ho, ← e2]; exact e sr k k1 rf⟩
/-! marks, run -/
theorem y_PCi_u {s : z_M} (u : y_U2 s) (hT : y_TOK s) {i : Int} (h0 : 0 ≤ i) (h1 : i < s 6 6) : 0 ≤ s 215 i ∧ s 215 i < s 191 16 := by
  have p := u.2.1.2 hT
  obtain ⟨_, p⟩ := p
  by_cases q : s 6 6 = 0
  · omega
  · have t : y_sC s 0 = 1 := hT.resolve_left q
    have m := p.mem y_sC_01 t i.toNat (by omega)
    rw [show ((i.toNat : Nat) : Int) = i by omega] at m
    exact m.1
theorem e_cmarks {fu : Nat} (hfu : 8589934592 ≤ fu) {s : z_M} (c : z_CI s) (h : y_V2 s) (ht : ∀ sr, y_RF s sr → y_TOK sr) {d : Int} : z_T (fX11_marks fu s 1 d) (fun v _ => y_QA s v (0 ≤ d ∧ d ≤ 1) (fun sr => y_sum (y_mk sr d) 0 (sr 6 6).toNat)) := by
  refine T_of (fX11_marks.eq_1 ..) ?_
  refine T_if1 v_ob1 ?_
  refine T_nwn (fun n => T_ret (Or.inl ⟨n, rfl⟩)) (fun h0 h1 => ?_)
  refine T_if1 v_ob1 ?_
  refine T_useN (e_fresh hfu c h) (fun v sr hq => ?_)
  obtain ⟨rfl, rf⟩ := hq
  refine T_vN ?_
  refine T_if1 v_ob1 ?_
  refine T_let 191 v_g1_6 ?_
  refine T_if1 v_ob1 ?_
  refine T_let 6 v_g1_2 ?_
  refine T_if1 v_ob6 ?_
  have b := CI_b rf.1 (k := 6) (j := 6) bd_6_6
  refine T_let (sr 6 6) rfl ?_
  refine T_let (sr 6 6 - 1) (v_wid (by omega)) ?_
  refine T_if1 v_ob191 ?_
  have k := CI_b rf.1 (k := 191) (j := 16) bd_191_16q
  refine T_bI (T_of (e_marksOf hfu (n := sr 6 6) (A := 0) ⟨Int.le_refl 0, b.1⟩ b.2 (fun i p q => ?_)) (T_rI ?_))
  · have := y_PCi_u rf.2.1 (ht sr rf) p q
    omega
  · exact T_ret (Or.inr ⟨⟨h0, h1⟩, sr, rf, by rw [Int.sub_zero]⟩)
theorem e_crun {fu : Nat} (hfu : 8589934592 ≤ fu) {s : z_M} (c : z_CI s) (h : y_V2 s) {k w : Int} : z_T (fX11_run fu s 1 k w) (fun v _ => y_QA s v (0 ≤ w ∧ w ≤ 2) (fun sr => y_rv (sr 219) (sr 6 6) k w (sr 6 6).toNat 0 0)) := by
  refine T_of (fX11_run.eq_1 ..) ?_
  refine T_if1 v_ob1 ?_
  refine T_nwn (fun n => T_ret (Or.inl ⟨n, rfl⟩)) (fun h0 h1 => ?_)
  refine T_if1 v_ob1 ?_
  refine T_useN (e_fresh hfu c h) (fun v sr hq => ?_)
  obtain ⟨rfl, rf⟩ := hq
  refine T_vN ?_
  have b := CI_b rf.1 (k := 6) (j := 6) bd_6_6
  refine T_of (e_runL rfl b (sr 6 6).toNat fu 0 0 1 (by omega) (by omega) (Int.le_refl 0) (by decide) (by omega) (Int.le_refl 0) (Int.le_refl 0) (fun q => by omega) (fun q => ?_)) ?_
  · exact y_re_s (by omega) (by omega)
  · exact T_ret (Or.inr ⟨⟨h0, h1⟩, sr, rf, by rw [Int.sub_zero]⟩)
/-! the reference's run -/
def y_am (s : z_M) (u : Int) : Int := if s 3220 u = 2 ∧ s 312 5 = 1 ∧ s 3222 u ≤ s 312 1 then 1 else 0
theorem y_am_01 {s : z_M} {u : Int} : y_am s u = 0 ∨ y_am s u = 1 := by
  unfold y_am
  by_cases h : s 3220 u = 2 ∧ s 312 5 = 1 ∧ s 3222 u ≤ s 312 1
  · rw [if_pos h]; exact Or.inr rfl
  · rw [if_neg h]; exact Or.inl rfl
theorem em_isAcross {fu : Nat} {s : z_M} {u : Int} (h : 0 ≤ u ∧ u < 200) : fX12_isAcross fu s 309 u = some (vI (y_am s u), s) := by
  unfold fX12_isAcross fX12_isAcross_J39 fX12_isAcross_J40
  simp only [z_let, if_pos v_ob309, v_gm21, v_gm9, v_gm23, if_pos (v_x3220 h), if_pos (v_x3222 h), if_pos (v_x312 (show (0 : Int) ≤ 5 ∧ (5 : Int) < 9 by decide)), if_pos (v_x312 (show (0 : Int) ≤ 1 ∧ (1 : Int) < 9 by decide)), if_pos bl0, if_pos bl1]
  unfold y_am
  by_cases h1 : s 3220 u = 2
  · rw [if_neg (by omega)]
    by_cases h2 : s 312 5 = 1
    · rw [if_neg (by omega)]
      by_cases h3 : s 312 1 < s 3222 u
      · rw [if_pos h3, if_neg (by omega)]
      · rw [if_neg h3, if_pos (by omega)]
    · rw [if_pos h2, if_neg (by omega)]
  · rw [if_pos h1, if_neg (by omega)]
def y_tm (s : z_M) (i : Int) : Int := if (s 346 i = 1 ∨ (s 346 i = 2 ∧ y_am s (s 3223 i) = 0) ∨ s 346 i = 4 ∨ s 346 i = 5) ∧ s 312 5 = 1 then 1 else 0
theorem em_isTurned {fu : Nat} {s : z_M} {i : Int} (h : 0 ≤ i ∧ i < 200) (hu : 0 ≤ s 3223 i ∧ s 3223 i < 200) : fX12_isTurned fu s 309 i = some (vI (y_tm s i), s) := by
  unfold fX12_isTurned fX12_isTurned_J52 fX12_isTurned_J56 fX12_isTurned_J57
  simp only [z_let, if_pos v_ob309, v_gm14, v_gm9, v_gm24, v_gz345.1, if_pos v_gz345.2, if_pos (v_x346 h), if_pos (v_x3223 h), if_pos (v_x312 (show (0 : Int) ≤ 5 ∧ (5 : Int) < 9 by decide)), em_isAcross hu, zb_I, if_pos bl0, if_pos bl1]
  have a := y_am_01 (s := s) (u := s 3223 i)
  unfold y_tm
  by_cases h2 : s 312 5 = 1
  · rw [if_neg (by omega)]
    by_cases h1 : s 346 i = 1
    · rw [if_pos h1, if_pos (by omega)]
    · rw [if_neg h1]
      by_cases h4 : s 346 i = 4
      · rw [if_pos h4, if_pos (by omega)]
      · rw [if_neg h4]
        by_cases h5 : s 346 i = 5
        · rw [if_pos h5, if_pos (by omega)]
        · rw [if_neg h5]
          by_cases h3 : s 346 i = 2
          · rw [if_neg (by omega)]
            by_cases h6 : y_am s (s 3223 i) = 0
            · rw [if_neg (by omega), if_pos (by omega)]
            · rw [if_pos h6, if_neg (by omega)]
          · rw [if_pos h3, if_neg (by omega)]
  · rw [if_pos h2, if_neg (by omega)]
theorem y_tm_01 {s : z_M} {i : Int} : y_tm s i = 0 ∨ y_tm s i = 1 := by
  unfold y_tm
  by_cases h : (s 346 i = 1 ∨ (s 346 i = 2 ∧ y_am s (s 3223 i) = 0) ∨ s 346 i = 4 ∨ s 346 i = 5) ∧ s 312 5 = 1
  · rw [if_pos h]; exact Or.inr rfl
  · rw [if_neg h]; exact Or.inl rfl
theorem em_run51 {fu : Nat} {s : z_M} {a1 a2 a3 n i : Int} {k : z_M → Int → z_O} (hn : s 316 0 = n) (h2 : n ≤ 200) (h0 : 0 ≤ i ∧ i < n) (hu : ∀ j : Int, 0 ≤ j → j < n → 0 ≤ s 3223 j ∧ s 3223 j < 200) : ∀ (m F : Nat) (o : Int), (m : Int) = n - (i + o) → m < F → 1 ≤ o → fX12_run_L51 fu 309 a1 a2 a3 i F s o k = k s (y_re (y_tm s) n (y_tm s i) m (i + o) - i) := by
  intro m
  induction m with
  | zero =>
    intro F o h1 hF ho
    obtain ⟨F, rfl⟩ : ∃ F2, F = F2 + 1 := ⟨F - 1, by omega⟩
    rw [fX12_run_L51.eq_2]
    simp only [z_let, if_pos v_ob309, v_gm12, v_gz315.1, if_pos v_gz315.2, if_pos (v_x316 (show (0 : Int) ≤ 0 ∧ (0 : Int) < 3 by decide)), hn]
    rw [v_wid (by omega), if_pos (by omega)]
    show k s o = k s (i + o - i)
    rw [show i + o - i = o by omega]
  | succ m ih =>
    intro F o h1 hF ho
    obtain ⟨F, rfl⟩ : ∃ F2, F = F2 + 1 := ⟨F - 1, by omega⟩
    rw [fX12_run_L51.eq_2]
    simp only [z_let, if_pos v_ob309, v_gm12, v_gz315.1, if_pos v_gz315.2, if_pos (v_x316 (show (0 : Int) ≤ 0 ∧ (0 : Int) < 3 by decide)), hn]
    rw [v_wid (show -2147483648 ≤ i + o ∧ i + o ≤ 2147483647 by omega), if_neg (by omega), em_isTurned ⟨by omega, by omega⟩ (hu (i + o) (by omega) (by omega))]
    simp only [zb_I]
    rw [em_isTurned ⟨by omega, by omega⟩ (hu i (by omega) (by omega))]
    simp only [zb_I]
    rw [y_re_e, if_neg (show ¬ n ≤ i + o by omega)]
    by_cases q : y_tm s (i + o) = y_tm s i
    · rw [if_neg (show ¬ y_tm s (i + o) ≠ y_tm s i from fun x => x q), if_pos q, v_wid (by omega), ih F (o + 1) (by omega) (by omega) (by omega), show i + (o + 1) = i + o + 1 by omega]
    · rw [if_pos (show y_tm s (i + o) ≠ y_tm s i from q), if_neg q, show i + o - i = o by omega]
theorem em_run91 {fu : Nat} {s : z_M} {k w r i o : Int} {rr : z_M → Int → Int → z_O} {kk : z_M → z_O} (hr : -1 ≤ r ∧ r ≤ 1000) (h : 0 ≤ i ∧ i < 200) (ho : 0 ≤ o ∧ o ≤ 1000) (hu : 0 ≤ s 3223 i ∧ s 3223 i < 200) : fX12_run_J91 fu s 309 k w r i o rr kk = if r + 1 = k then some (vI (if w = 0 then i else if w = 1 then o else y_tm s i), s) else rr s (r + 1) (i + o) := by
  unfold fX12_run_J91 fX12_run_J132
  simp only [z_let, if_pos v_ob309, em_isTurned h hu, zb_I]
  rw [v_wid (by omega), v_wid (by omega)]
  by_cases g : r + 1 = k
  · rw [if_neg (by omega), if_pos g]
    by_cases w0 : w = 0
    · rw [if_neg (by omega), if_pos w0]
    · rw [if_pos w0, if_neg w0]
      by_cases w1 : w = 1
      · rw [if_neg (by omega), if_pos w1]
      · rw [if_pos w1, if_neg w1]
        rcases y_tm_01 (s := s) (i := i) with e | e
        · rw [e]; rfl
        · rw [e]; rfl
  · rw [if_pos g, if_neg g]
theorem em_runL {fu : Nat} (hfu : 8589934592 ≤ fu) {s : z_M} {k w n : Int} (hn : s 316 0 = n) (h2 : 0 ≤ n ∧ n ≤ 200) (hu : ∀ j : Int, 0 ≤ j → j < n → 0 ≤ s 3223 j ∧ s 3223 j < 200) : ∀ (m F : Nat) (r i : Int), n - i ≤ m → m < F → 0 ≤ i → i ≤ n → -1 ≤ r → r < i → fX12_run_L35 fu 309 k w F s r i (fun s25 => some (vI (-1), s25)) = some (vI (y_rv (y_tm s) n k w m i (r + 1)), s) := by
  intro m
  induction m with
  | zero =>
    intro F r i h1 hF h3 h4 h5 h6
    obtain ⟨F, rfl⟩ : ∃ F2, F = F2 + 1 := ⟨F - 1, by omega⟩
    rw [fX12_run_L35.eq_2]
    simp only [z_let, if_pos v_ob309, v_gm12, v_gz315.1, if_pos v_gz315.2, if_pos (v_x316 (show (0 : Int) ≤ 0 ∧ (0 : Int) < 3 by decide)), hn]
    rw [if_pos (by omega)]
    rfl
  | succ m ih =>
    intro F r i h1 hF h3 h4 h5 h6
    obtain ⟨F, rfl⟩ : ∃ F2, F = F2 + 1 := ⟨F - 1, by omega⟩
    rw [fX12_run_L35.eq_2]
    simp only [z_let, if_pos v_ob309, v_gm12, v_gz315.1, if_pos v_gz315.2, if_pos (v_x316 (show (0 : Int) ≤ 0 ∧ (0 : Int) < 3 by decide)), hn]
    rw [y_rv_e]
    by_cases q : n ≤ i
    · rw [if_pos q, if_pos q]
    · rw [if_neg q, if_neg q, em_run51 hn h2.2 ⟨h3, by omega⟩ hu (n - (i + 1)).toNat fu 1 (by omega) (by omega) (Int.le_refl 1)]
      have b := y_re_b (T := y_tm s) (n := n) (v := y_tm s i) (n - (i + 1)).toNat (i + 1)
      have e : y_re (y_tm s) n (y_tm s i) (n - i).toNat (i + 1) = y_re (y_tm s) n (y_tm s i) (n - (i + 1)).toNat (i + 1) := y_re_s (by omega) (by omega)
      rw [em_run91 ⟨h5, by omega⟩ ⟨h3, by omega⟩ ⟨by omega, by omega⟩ (hu i h3 (by omega)), e]
      by_cases g : r + 1 = k
      · rw [if_pos g, if_pos g]
      · rw [if_neg g, if_neg g, show i + (y_re (y_tm s) n (y_tm s i) (n - (i + 1)).toNat (i + 1) - i) = y_re (y_tm s) n (y_tm s i) (n - (i + 1)).toNat (i + 1) by omega]
        exact ih F (r + 1) _ (by omega) (by omega) (by omega) (by omega) (by omega) (by omega)
theorem em_zero {s : z_M} : z_up s 309 0 0 309 0 = 0 ∧ ∀ a b : Int, ¬ (a = 309 ∧ b = 0) → z_up s 309 0 0 a b = s a b :=
  ⟨z_up_s, fun a b q => by
    by_cases z : a = 309
    · subst z
      exact z_up_j (fun y => q ⟨rfl, y⟩)
    · exact z_up_k z⟩
theorem y_tm_z {s s1 : z_M} (k : ∀ a b : Int, ¬ (a = 309 ∧ b = 0) → s1 a b = s a b) : y_tm s1 = y_tm s := funext fun i => by
  have e : ∀ u, y_am s1 u = y_am s u := fun u => by
    unfold y_am
    rw [k 3220 u (by omega), k 312 5 (by omega), k 3222 u (by omega), k 312 1 (by omega)]
  unfold y_tm
  rw [k 346 i (by omega), k 3223 i (by omega), k 312 5 (by omega), e]
theorem em_run {fu : Nat} (hfu : 8589934592 ≤ fu) {s : z_M} {k w : Int} (hn : 0 ≤ s 316 0 ∧ s 316 0 ≤ 200) (hu : ∀ j : Int, 0 ≤ j → j < s 316 0 → 0 ≤ s 3223 j ∧ s 3223 j < 200) : z_T (fX12_run fu s 309 k w) (fun v s' => ∃ y, v = vI y ∧ y_A1 s' (0 ≤ w ∧ w ≤ 2) y (y_rv (y_tm s) (s 316 0) k w (s 316 0).toNat 0 0)) := by
  refine T_of (fX12_run.eq_1 ..) ?_
  refine T_if1 v_ob309 ?_
  refine T_up ?_
  obtain ⟨e0, kk⟩ := em_zero (s := s)
  generalize z_up s 309 0 0 = s1 at e0 kk
  have en : s1 316 0 = s 316 0 := kk _ _ (by omega)
  refine T_bI (T_of em_in (T_rI ?_))
  by_cases h : 0 ≤ w ∧ w ≤ 2
  · rw [if_pos h]
    refine T_if1 (by decide) ?_
    refine T_of (fX12_run_J20.eq_1 ..) ?_
    refine T_if1 v_ob309 ?_
    refine T_bI (T_of (em_bad0 e0) (T_rI ?_))
    refine T_if1 rfl ?_
    refine T_of (em_runL hfu (n := s 316 0) en hn (fun j p q => by rw [kk 3223 j (by omega)]; exact hu j p q) (s 316 0).toNat fu (-1) 0 (by omega) (by omega) (Int.le_refl 0) hn.1 (by decide) (by decide)) ?_
    refine T_ret ⟨_, rfl, Or.inr ⟨h, e0, ?_⟩⟩
    rw [y_tm_z kk]; rfl
  · rw [if_neg h]
    refine T_if0 (by decide) ?_
    refine T_of (fX12_run_J20.eq_1 ..) ?_
    refine T_if1 v_ob309 ?_
    refine T_useI (em_bad1 e0 (by decide) (Or.inr rfl)) (fun v s2 hq => ?_)
    obtain ⟨rfl, q1, _⟩ := hq
    refine T_vI ?_
    refine T_if0 (by decide) ?_
    exact T_ret ⟨_, rfl, Or.inl ⟨h, q1⟩⟩
/-! both sides -/
theorem y_T2.cl {s g m : z_M} (h : y_T2 s 6 m 0) (f : ∀ a b : Int, 6 ≤ a ∧ a ≤ 18 → g a b = s a b) : y_T2 g 6 m 0 := by
  obtain ⟨h1, h2, h3⟩ := h
  have e : y_TE s g 6 6 := y_TE.rf f
  exact ⟨h1.tc e, by rw [f 6 7 (by omega), f 6 6 (by omega)]; exact h2, h3.tc e h1.1⟩
/-- signs turned alike -/
theorem y_tn_eq {g s : z_M} (X : y_T2 g 6 s 0) (u : y_U2 g) (p : y_PU s) (hn : 0 ≤ s 316 0) (st : ∀ j, g 3 j = s 312 j) {i : Int} (h0 : 0 ≤ i) (h1 : i < s 316 0) : g 219 i = y_tm s i := by
  have e := X.1.EU u.2.1 p
  obtain ⟨e1, e2, e3⟩ := e
  have b := X.1.BS X.2.2 rfl
  obtain ⟨u1, u2, u3, u4, u5, u6⟩ := p.of0 b h0 h1
  obtain ⟨x1, x2, x3⟩ := e2 (s 3223 i) u1.1 u1.2
  have mr := ((u.2.2 (X.tok hn)).1 (s 3223 i) u1.1 (by omega)).2.2.2.2 i (by omega) (by omega)
  rw [mr.2]
  have ea : y_ac g (s 3223 i) = y_am s (s 3223 i) := by
    unfold y_ac y_am
    rw [x3, x2, st, st]
  rw [ea, x3, u4]
  unfold y_tn y_tm
  rw [st]
