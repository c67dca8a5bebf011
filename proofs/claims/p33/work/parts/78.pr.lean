/-! The reference's pairs: a stack of what is open; which are tied -/
/-- o opens stand in S, the latest one last: those of no pair below n -/
def y_ck (K p S : Int → Int) : Nat → Nat → Prop
  | 0, n => y_lo K p n = -1
  | o + 1, n => y_lo K p n ≠ -1 ∧ S o = y_lo K p n ∧ y_ck K p S o (y_lo K p n).toNat
theorem y_lo_s {K p : Int → Int} {n : Nat} : y_lo K p (n + 1) = if K n = 4 ∧ p n = -1 then (n : Int) else y_lo K p n := rfl
theorem y_pt_s {K : Int → Int} {n : Nat} : y_pt K (n + 1) = if K n = 5 ∧ y_lo K (y_pt K n) n ≠ -1 then (fun x : Int => if x = n then y_lo K (y_pt K n) n else if x = y_lo K (y_pt K n) n then (n : Int) else y_pt K n x) else y_pt K n := rfl
theorem y_ck_cg {K p p' S S' : Int → Int} : ∀ (o n : Nat), (∀ i : Int, 0 ≤ i → i < n → p i = p' i) → (∀ j : Int, 0 ≤ j → j < o → S j = S' j) → y_ck K p S o n → y_ck K p' S' o n := by
  intro o
  induction o with
  | zero =>
    intro n hp _ h
    have e := y_lo_cg (K := K) (p := p) (K' := K) (p' := p') n (fun i a b => ⟨rfl, hp i a b⟩)
    show y_lo K p' n = -1
    rw [← e]; exact h
  | succ o ih =>
    intro n hp hS h
    obtain ⟨h1, h2, h3⟩ := h
    have e := y_lo_cg (K := K) (p := p) (K' := K) (p' := p') n (fun i a b => ⟨rfl, hp i a b⟩)
    have b := y_lo_b (K := K) (p := p) n
    refine ⟨by rw [← e]; exact h1, by rw [← e, ← hS o (by omega) (by omega)]; exact h2, ?_⟩
    rw [← e]
    exact ih _ (fun i a c => hp i a (by omega)) (fun j a c => hS j a (by omega)) h3
/-- the stack is told by the latest one alone -/
theorem y_ck_lo {K p S : Int → Int} {o n m : Nat} (e : y_lo K p n = y_lo K p m) (h : y_ck K p S o n) : y_ck K p S o m := by
  cases o with
  | zero => show y_lo K p m = -1; rw [← e]; exact h
  | succ o =>
    obtain ⟨h1, h2, h3⟩ := h
    refine ⟨by rw [← e]; exact h1, by rw [← e]; exact h2, by rw [← e]; exact h3⟩
/-- the latest open of no pair, when the one at q is of one now -/
theorem y_lo_cut {K p p' : Int → Int} {q : Nat} : ∀ (n : Nat), q < n → (∀ i : Int, 0 ≤ i → i < n → i ≠ q → p i = p' i) → p' q ≠ -1 → y_lo K p n = q → y_lo K p' n = y_lo K p q := by
  intro n
  induction n with
  | zero => intro h; omega
  | succ n ih =>
    intro h hp hq e
    rw [y_lo_s] at e ⊢
    by_cases z : q = n
    · subst z
      rw [if_neg (fun w => hq w.2)]
      exact (y_lo_cg q (fun i a b => ⟨rfl, hp i a (by omega) (by omega)⟩)).symm
    · by_cases c : K n = 4 ∧ p n = -1
      · rw [if_pos c] at e
        omega
      · rw [if_neg c] at e
        rw [← hp n (by omega) (by omega) (by omega), if_neg c]
        exact ih (by omega) (fun i a b w => hp i a (by omega) w) hq e
/-- tied: of widths W from q to n, at most T -/
abbrev y_TD (W : Int → Int) (T q n : Int) : Prop := T ≠ 0 ∧ y_sum W q (n + 1 - q).toNat ≤ T
def y_tg (K W : Int → Int) (T : Int) : Nat → Int → Int
  | 0 => fun _ => 0
  | n + 1 => if (K n = 5 ∧ y_lo K (y_pt K n) n ≠ -1) ∧ y_TD W T (y_lo K (y_pt K n) n) n then (fun v : Int => if y_lo K (y_pt K n) n ≤ v ∧ v < n then 1 else y_tg K W T n v) else y_tg K W T n
def y_tn2 (K W : Int → Int) (T : Int) : Nat → Int
  | 0 => 0
  | n + 1 => if (K n = 5 ∧ y_lo K (y_pt K n) n ≠ -1) ∧ y_TD W T (y_lo K (y_pt K n) n) n then y_tn2 K W T n + 1 else y_tn2 K W T n
theorem y_tg_s {K W : Int → Int} {T : Int} {n : Nat} : y_tg K W T (n + 1) = if (K n = 5 ∧ y_lo K (y_pt K n) n ≠ -1) ∧ y_TD W T (y_lo K (y_pt K n) n) n then (fun v : Int => if y_lo K (y_pt K n) n ≤ v ∧ v < n then 1 else y_tg K W T n v) else y_tg K W T n := rfl
theorem y_tn2_s {K W : Int → Int} {T : Int} {n : Nat} : y_tn2 K W T (n + 1) = if (K n = 5 ∧ y_lo K (y_pt K n) n ≠ -1) ∧ y_TD W T (y_lo K (y_pt K n) n) n then y_tn2 K W T n + 1 else y_tn2 K W T n := rfl
theorem y_pc_s {K : Int → Int} {n : Nat} : y_pc K (n + 1) = if K n = 5 ∧ y_lo K (y_pt K n) n ≠ -1 then y_pc K n + 1 else y_pc K n := rfl
theorem y_tg_01 {K W : Int → Int} {T : Int} : ∀ (n : Nat) (v : Int), y_tg K W T n v = 0 ∨ y_tg K W T n v = 1 := by
  intro n
  induction n with
  | zero => intro v; exact Or.inl rfl
  | succ n ih =>
    intro v
    rw [y_tg_s]
    by_cases h : (K n = 5 ∧ y_lo K (y_pt K n) n ≠ -1) ∧ y_TD W T (y_lo K (y_pt K n) n) n
    · rw [if_pos h]
      show (if y_lo K (y_pt K n) n ≤ v ∧ v < n then (1 : Int) else y_tg K W T n v) = 0 ∨ (if y_lo K (y_pt K n) n ≤ v ∧ v < n then (1 : Int) else y_tg K W T n v) = 1
      by_cases c : y_lo K (y_pt K n) n ≤ v ∧ v < n
      · rw [if_pos c]; exact Or.inr rfl
      · rw [if_neg c]; exact ih v
    · rw [if_neg h]; exact ih v
theorem y_tn2_b {K W : Int → Int} {T : Int} : ∀ n : Nat, 0 ≤ y_tn2 K W T n ∧ y_tn2 K W T n ≤ n := by
  intro n
  induction n with
  | zero => exact ⟨Int.le_refl 0, Int.le_refl 0⟩
  | succ n ih =>
    rw [y_tn2_s]
    split <;> omega
theorem y_tg_z {K W : Int → Int} {T : Int} : ∀ (j : Nat) (x : Int), (j : Int) ≤ x → y_tg K W T j x = 0 := by
  intro j
  induction j with
  | zero => intro x _; rfl
  | succ j ij =>
    intro x hx
    rw [y_tg_s]
    by_cases h : (K j = 5 ∧ y_lo K (y_pt K j) j ≠ -1) ∧ y_TD W T (y_lo K (y_pt K j) j) j
    · rw [if_pos h]
      show (if y_lo K (y_pt K j) j ≤ x ∧ x < (j : Int) then (1 : Int) else y_tg K W T j x) = 0
      rw [if_neg (show ¬ (y_lo K (y_pt K j) j ≤ x ∧ x < (j : Int)) by omega)]; exact ij x (by omega)
    · rw [if_neg h]; exact ij x (by omega)
/-- what the loops know of pairs of the first n units -/
def y_PP (D s : z_M) (T : Int) (n : Nat) : Prop := (∀ x : Int, 0 ≤ x → x < n → s 3435 x = y_pt (D 0) n x) ∧ s 309 38 = y_pc (D 0) n ∧ (∀ v : Int, 0 ≤ v → v < n → s 3437 v = y_tg (D 0) (D 1) T n v) ∧ s 309 39 = y_tn2 (D 0) (D 1) T n
/-- cells that laysPairs writes on -/
abbrev y_pw (x b : Int) : Prop := x = 3435 ∨ x = 3436 ∨ x = 3437 ∨ (x = 309 ∧ (b = 38 ∨ b = 39))
theorem em_tie61 {fu : Nat} {b : Int} {s0 : z_M} {k : z_M → z_O} {P : z_V → z_M → Prop} {a : Int} (ha : 0 ≤ a) (hb : b ≤ 200) (hk : ∀ s' : z_M, (∀ v : Int, a ≤ v → v < b → s' 3437 v = 1) → (∀ x y : Int, ¬ (x = 3437 ∧ a ≤ y ∧ y < b) → s' x y = s0 x y) → z_T (k s') P) :
    ∀ (m F : Nat) (s : z_M) (u : Int), b - u ≤ (m : Int) → m < F → a ≤ u → (∀ v : Int, a ≤ v → v < u → v < b → s 3437 v = 1) → (∀ x y : Int, ¬ (x = 3437 ∧ a ≤ y ∧ y < b) → s x y = s0 x y) → z_T (fX12_ties_L61 fu 309 b F s u k) P := by
  intro m
  induction m with
  | zero =>
    intro F s u h1 hF h3 g f
    obtain ⟨F, rfl⟩ : ∃ F2, F = F2 + 1 := ⟨F - 1, by omega⟩
    refine T_of (fX12_ties_L61.eq_2 ..) ?_
    refine T_if1 (show b ≤ u by omega) ?_
    exact hk s (fun v p q => g v p (by omega) q) f
  | succ m ih =>
    intro F s u h1 hF h3 g f
    obtain ⟨F, rfl⟩ : ∃ F2, F = F2 + 1 := ⟨F - 1, by omega⟩
    refine T_of (fX12_ties_L61.eq_2 ..) ?_
    refine T_ite (fun q => hk s (fun v p r => g v p (by omega) r) f) (fun q => ?_)
    refine T_if1 v_ob309 ?_
    refine T_let 3437 v_gm42 ?_
    refine T_if1 ⟨v_x3437 ⟨by omega, by omega⟩, bl1⟩ ?_
    refine T_up ?_
    refine T_let (u + 1) (v_wid (by omega)) ?_
    refine ih F _ (u + 1) (by omega) (by omega) (by omega) (fun v p r t => ?_) (fun x y w => ?_)
    · by_cases z : v = u
      · subst z; exact z_up_s
      · rw [z_up_j z]; exact g v p (by omega) t
    · rw [z_up_k2 (by omega)]; exact f x y w
theorem em_ties {fu : Nat} (hfu : 8589934592 ≤ fu) {D s : z_M} (h : y_MU2 D s) {a b T : Int} (ha : 0 ≤ a ∧ a ≤ b) (hb : b < s 309 20) (hT : s 312 7 = T) (hT2 : 0 ≤ T ∧ T ≤ 1000) (ht : 0 ≤ s 309 39 ∧ s 309 39 ≤ 1000) :
    z_T (fX12_ties fu s 309 a b) (fun v s' => v = vN ∧ (y_TD (D 1) T a b → (∀ v : Int, a ≤ v → v < b → s' 3437 v = 1) ∧ s' 309 39 = s 309 39 + 1 ∧ ∀ x y : Int, ¬ (x = 3437 ∧ a ≤ y ∧ y < b) → ¬ (x = 309 ∧ y = 39) → s' x y = s x y) ∧ (¬ y_TD (D 1) T a b → s' = s)) := by
  have nn := h.1.1
  have loop : ∀ (m F : Nat) (t u : Int) (k : z_M → Int → z_O), (m : Int) = b + 1 - u → m < F → a ≤ u → t = y_sum (D 1) a (u - a).toNat → fX12_ties_L5 fu 309 a b F s t u k = k s (y_sum (D 1) a (b + 1 - a).toNat) := by
    intro m
    induction m with
    | zero =>
      intro F t u k h1 hF h3 h4
      obtain ⟨F, rfl⟩ : ∃ F2, F = F2 + 1 := ⟨F - 1, by omega⟩
      rw [fX12_ties_L5.eq_2, if_pos (show b < u by omega), h4, show u = b + 1 by omega]
    | succ m ih =>
      intro F t u k h1 hF h3 h4
      obtain ⟨F, rfl⟩ : ∃ F2, F = F2 + 1 := ⟨F - 1, by omega⟩
      have sb := y_sum_r (f := D 1) (a := a) (m := 2400) (u - a).toNat (fun i p q => (h.2.2.2 i (by omega) (by omega)).2.1)
      have nb : ((u - a).toNat : Int) ≤ 200 := by omega
      have wb := (h.2.2.2 u (by omega) (by omega)).2.1
      rw [fX12_ties_L5.eq_2, if_neg (show ¬ b < u by omega), if_pos v_ob309, em_width hfu h.1 ⟨by omega, by omega⟩]
      simp only [zb_I, z_let]
      rw [(h.2.2.1 u (by omega) (by omega)).2.1, v_wid (by omega), v_wid (by omega)]
      refine ih F _ _ k (by omega) (by omega) (by omega) ?_
      rw [show (u + 1 - a).toNat = (u - a).toNat + 1 by omega, y_sum_s, h4, show a + (((u - a).toNat : Nat) : Int) = u by omega]
  refine T_of (fX12_ties.eq_1 ..) ?_
  refine T_of (loop (b + 1 - a).toNat fu 0 a _ (by omega) (by omega) (Int.le_refl _) (by rw [show a - a = 0 by omega]; rfl)) ?_
  have no : ¬ y_TD (D 1) T a b → z_T (fX12_ties_J47 fu s) (fun v s' => v = vN ∧ (y_TD (D 1) T a b → (∀ v : Int, a ≤ v → v < b → s' 3437 v = 1) ∧ s' 309 39 = s 309 39 + 1 ∧ ∀ x y : Int, ¬ (x = 3437 ∧ a ≤ y ∧ y < b) → ¬ (x = 309 ∧ y = 39) → s' x y = s x y) ∧ (¬ y_TD (D 1) T a b → s' = s)) := fun q => by
    refine T_of (fX12_ties_J47.eq_1 ..) ?_
    exact T_ret ⟨rfl, fun w => absurd w q, fun _ => rfl⟩
  refine T_if1 v_ob309 ?_
  refine T_let 312 v_gm9 ?_
  refine T_if1 (v_x312 (by decide)) ?_
  refine T_let T hT ?_
  refine T_ite (fun q => no (fun w => w.1 q)) (fun q => ?_)
  refine T_if1 v_ob309 ?_
  refine T_let 312 v_gm9 ?_
  refine T_if1 (v_x312 (by decide)) ?_
  refine T_let T hT ?_
  refine T_ite (fun q2 => ?_) (fun q2 => no (fun w => q2 w.2))
  refine T_if1 v_ob309 ?_
  refine T_let (s 309 39) rfl ?_
  refine T_let (s 309 39 + 1) (v_wid (by omega)) ?_
  refine T_if1 v_ob309 ?_
  refine T_up ?_
  refine em_tie61 (s0 := z_up s 309 39 (s 309 39 + 1)) ha.1 (by omega) (fun s' g f => ?_) (b - a).toNat fu _ a (by omega) (by omega) (Int.le_refl _) (fun v p q => by omega) (fun _ _ _ => rfl)
  refine T_ret ⟨rfl, fun _ => ⟨g, (f _ _ (by omega)).trans z_up_s, fun x y p r => (f x y p).trans (z_up_k2 r)⟩, fun w => absurd ⟨q, q2⟩ w⟩
theorem em_pairL {fu : Nat} (hfu : 8589934592 ≤ fu) {D : z_M} {T : Int} {s0 : z_M} {k : z_M → z_O} {P : z_V → z_M → Prop} (h : y_MU2 D s0) (hT : s0 312 7 = T) (hT2 : 0 ≤ T ∧ T ≤ 1000)
    (hk : ∀ s' : z_M, y_PP D s' T (s0 309 20).toNat → (∀ x b : Int, ¬ y_pw x b → s' x b = s0 x b) → z_T (k s') P) :
    ∀ (m F : Nat) (s : z_M) (o n : Nat), (n : Int) + m = s0 309 20 → m < F → y_PP D s T n → y_ck (D 0) (y_pt (D 0) n) (s 3436) o n → o ≤ n → (∀ x b : Int, ¬ y_pw x b → s x b = s0 x b) → z_T (fX12_laysPairs_L14 fu 309 F s (o : Int) (n : Int) k) P := by
  intro m
  induction m with
  | zero =>
    intro F s o n h1 hF pp ck on f
    obtain ⟨F, rfl⟩ : ∃ F2, F = F2 + 1 := ⟨F - 1, by omega⟩
    refine T_of (fX12_laysPairs_L14.eq_2 ..) ?_
    refine T_if1 v_ob309 ?_
    refine T_let (s0 309 20) (f _ _ (by decide)) ?_
    refine T_if1 (show s0 309 20 ≤ (n : Int) by omega) ?_
    refine hk s ?_ f
    rw [show (s0 309 20).toNat = n by omega]; exact pp
  | succ m ih =>
    intro F s o n h1 hF pp ck on f
    obtain ⟨F, rfl⟩ : ∃ F2, F = F2 + 1 := ⟨F - 1, by omega⟩
    have nn := h.1.1
    have n2 : 0 ≤ (n : Int) ∧ (n : Int) < 200 := by omega
    have pcb := y_pc_b (K := D 0) n
    have tnb := y_tn2_b (K := D 0) (W := D 1) (T := T) n
    obtain ⟨p1, p2, p3, p4⟩ := pp
    refine T_of (fX12_laysPairs_L14.eq_2 ..) ?_
    refine T_if1 v_ob309 ?_
    refine T_let (s0 309 20) (f _ _ (by decide)) ?_
    refine T_if0 (show ¬ s0 309 20 ≤ (n : Int) by omega) ?_
    refine T_if1 v_ob309 ?_
    refine T_let 3435 v_gm40 ?_
    refine T_if1 (v_x3435 n2) ?_
    refine T_up ?_
    refine T_if1 v_ob309 ?_
    refine T_let 3437 v_gm42 ?_
    refine T_if1 ⟨v_x3437 n2, bl0⟩ ?_
    refine T_up ?_
    have f1 : ∀ x b : Int, ¬ (x = 3435 ∧ b = n) → ¬ (x = 3437 ∧ b = n) → z_up (z_up s 3435 n (-1)) 3437 n 0 x b = s x b := fun x b p q => (z_up_k2 q).trans (z_up_k2 p)
    have q1 : z_up (z_up s 3435 n (-1)) 3437 n 0 3435 n = -1 := (z_up_k (by decide)).trans z_up_s
    have q2 : z_up (z_up s 3435 n (-1)) 3437 n 0 3437 n = 0 := z_up_s
    generalize z_up (z_up s 3435 n (-1)) 3437 n 0 = s1 at f1 q1 q2
    have fw : ∀ x b : Int, ¬ y_pw x b → s1 x b = s0 x b := fun x b p => (f1 x b (fun w => p (Or.inl w.1)) (fun w => p (Or.inr (Or.inr (Or.inl w.1))))).trans (f x b p)
    have e36 : s1 3436 = s 3436 := funext fun b => f1 _ _ (by omega) (by omega)
    have eK : s1 3220 n = D 0 n := (fw _ _ (by omega)).trans (h.2.2.1 n (by omega) (by omega)).1
    have ge : y_pt (D 0) n n = -1 := y_pt_ge n n (Int.le_refl _)
    refine T_if1 v_ob309 ?_
    refine T_let 3220 v_gm21 ?_
    refine T_if1 (v_x3220 n2) ?_
    refine T_let (D 0 n) eK ?_
    -- what is not a close
    have plain : ∀ (s2 : z_M) (o2 : Nat), D 0 n ≠ 5 ∨ y_lo (D 0) (y_pt (D 0) n) n = -1 → (∀ x b : Int, ¬ (x = 3436) → s2 x b = s1 x b) → y_ck (D 0) (y_pt (D 0) n) (s2 3436) o2 (n + 1) → o2 ≤ n + 1 → z_T (fX12_laysPairs_J121 fu s2 309 (o2 : Int) (n : Int) (fun w v1 v2 => fX12_laysPairs_L14 fu 309 F w v1 v2 k) k) P := fun s2 o2 hn g2 c2 ob => by
      have no : ¬ (D 0 n = 5 ∧ y_lo (D 0) (y_pt (D 0) n) n ≠ -1) := fun w => hn.elim (fun x => x w.1) (fun x => w.2 x)
      refine T_of (fX12_laysPairs_J121.eq_1 ..) ?_
      refine T_let ((n + 1 : Nat) : Int) (by rw [v_wid (by omega)]; omega) ?_
      refine ih F s2 o2 (n + 1) (by omega) (by omega) ⟨fun x a b => ?_, ?_, fun v a b => ?_, ?_⟩ ?_ ob (fun x b p => (g2 x b (fun w => p (Or.inr (Or.inl w)))).trans (fw x b p))
      · rw [y_pt_s, if_neg no, g2 3435 x (by decide)]
        by_cases z : x = n
        · rw [z, q1, ge]
        · rw [f1 3435 x (by omega) (by omega)]; exact p1 x a (by omega)
      · rw [y_pc_s, if_neg no, g2 309 38 (by decide), f1 309 38 (by omega) (by omega)]; exact p2
      · rw [y_tg_s, if_neg (fun w => no w.1), g2 3437 v (by decide)]
        by_cases z : v = n
        · rw [z, q2]
          exact (y_tg_z n n (Int.le_refl _)).symm
        · rw [f1 3437 v (by omega) (by omega)]; exact p3 v a (by omega)
      · rw [y_tn2_s, if_neg (fun w => no w.1), g2 309 39 (by decide), f1 309 39 (by omega) (by omega)]; exact p4
      · rw [y_pt_s, if_neg no]; exact c2
    -- behind a possible open
    have rest : ∀ (s2 : z_M) (o2 : Nat), (∀ x b : Int, ¬ (x = 3436) → s2 x b = s1 x b) → (D 0 n ≠ 5 → y_ck (D 0) (y_pt (D 0) n) (s2 3436) o2 (n + 1)) → (D 0 n = 5 → y_ck (D 0) (y_pt (D 0) n) (s2 3436) o2 n ∧ s2 = s1) → o2 ≤ n + 1 → z_T (fX12_laysPairs_J56 fu s2 309 (o2 : Int) (n : Int) (fun w v1 v2 => fX12_laysPairs_L14 fu 309 F w v1 v2 k) k) P := fun s2 o2 g2 c2 c5 ob => by
      refine T_of (fX12_laysPairs_J56.eq_1 ..) ?_
      refine T_if1 v_ob309 ?_
      refine T_let 3220 v_gm21 ?_
      refine T_if1 (v_x3220 n2) ?_
      refine T_let (D 0 n) ((g2 _ _ (by decide)).trans eK) ?_
      refine T_ite (fun k5 => plain s2 o2 (Or.inl k5) g2 (c2 k5) ob) (fun k5 => ?_)
      have k5' : D 0 n = 5 := by omega
      obtain ⟨c6, e2⟩ := c5 k5'
      rw [e2] at c6 ⊢
      have lo1 : y_lo (D 0) (y_pt (D 0) n) (n + 1) = y_lo (D 0) (y_pt (D 0) n) n := by
        rw [y_lo_s, if_neg (fun w => by omega)]
      cases o2 with
      | zero =>
        refine T_if0 (show ¬ ((0 : Nat) : Int) ≠ 0 by decide) ?_
        have c7 : y_lo (D 0) (y_pt (D 0) n) n = -1 := c6
        exact plain s1 0 (Or.inr c7) (fun _ _ _ => rfl) (show y_lo (D 0) (y_pt (D 0) n) (n + 1) = -1 by rw [lo1]; exact c7) (by omega)
      | succ o2 =>
        obtain ⟨d1, d2, d3⟩ := c6
        have lb := y_lo_b (K := D 0) (p := y_pt (D 0) n) n
        have l4 := y_lo_4 (K := D 0) (p := y_pt (D 0) n) n d1
        have yes : D 0 n = 5 ∧ y_lo (D 0) (y_pt (D 0) n) n ≠ -1 := ⟨k5', d1⟩
        have c7e : ∀ S' : Int → Int, (∀ j : Int, 0 ≤ j → j < o2 → s1 3436 j = S' j) → y_ck (D 0) (y_pt (D 0) (n + 1)) S' o2 (n + 1) := fun S' hS => by
          obtain ⟨q, hq⟩ : ∃ q : Nat, y_lo (D 0) (y_pt (D 0) n) n = q := ⟨(y_lo (D 0) (y_pt (D 0) n) n).toNat, by omega⟩
          have ept : ∀ i : Int, y_pt (D 0) (n + 1) i = if i = n then (q : Int) else if i = q then (n : Int) else y_pt (D 0) n i := fun i => by
            rw [y_pt_s, if_pos yes, hq]
          have cut := y_lo_cut (K := D 0) (p := y_pt (D 0) n) (p' := y_pt (D 0) (n + 1)) (q := q) n (by omega) (fun i a b w => by rw [ept, if_neg (by omega), if_neg w]) (by rw [ept, if_neg (by omega), if_pos rfl]; omega) hq
          rw [hq, show ((q : Int)).toNat = q by omega] at d3
          have d4 := y_ck_cg (p' := y_pt (D 0) (n + 1)) (S' := S') o2 q (fun i a b => by rw [ept, if_neg (by omega), if_neg (by omega)]) hS d3
          refine y_ck_lo ?_ d4
          rw [y_lo_s, if_neg (fun w => by omega), cut]
          exact (y_lo_cg q (fun i a b => ⟨rfl, by rw [ept, if_neg (by omega), if_neg (by omega)]⟩)).symm
        generalize hq : y_lo (D 0) (y_pt (D 0) n) n = q at d1 d2 lb l4 yes
        have q2b : 0 ≤ q ∧ q < 200 := by omega
        have o2b : 0 ≤ (o2 : Int) ∧ (o2 : Int) < 200 := by omega
        refine T_if1 (show ((o2 + 1 : Nat) : Int) ≠ 0 by omega) ?_
        refine T_let (o2 : Int) (by rw [v_wid (by omega)]; omega) ?_
        refine T_if1 v_ob309 ?_
        refine T_let 3435 v_gm40 ?_
        refine T_if1 v_ob309 ?_
        refine T_let 3436 v_gm41 ?_
        refine T_if1 (v_x3436 o2b) ?_
        refine T_let q d2 ?_
        refine T_if1 (v_x3435 n2) ?_
        refine T_up ?_
        refine T_if1 v_ob309 ?_
        refine T_let 3435 v_gm40 ?_
        refine T_if1 v_ob309 ?_
        refine T_let 3436 v_gm41 ?_
        refine T_if1 (v_x3436 o2b) ?_
        refine T_let q ((z_up_k (by decide)).trans d2) ?_
        refine T_if1 (v_x3435 q2b) ?_
        refine T_up ?_
        refine T_if1 v_ob309 ?_
        have e38 : s1 309 38 = y_pc (D 0) n := (f1 309 38 (by omega) (by omega)).trans p2
        refine T_let (s1 309 38) ((z_up_k (by decide)).trans (z_up_k (by decide))) ?_
        refine T_let (s1 309 38 + 1) (v_wid (by omega)) ?_
        refine T_if1 v_ob309 ?_
        refine T_up ?_
        have gn : z_up (z_up (z_up s1 3435 n q) 3435 q n) 309 38 (s1 309 38 + 1) 3435 n = q := by
          rw [z_up_k (by decide), z_up_j (by omega), z_up_s]
        have gq : z_up (z_up (z_up s1 3435 n q) 3435 q n) 309 38 (s1 309 38 + 1) 3435 q = n := by
          rw [z_up_k (by decide), z_up_s]
        have g38 : z_up (z_up (z_up s1 3435 n q) 3435 q n) 309 38 (s1 309 38 + 1) 309 38 = s1 309 38 + 1 := z_up_s
        have g3 : ∀ x b : Int, ¬ (x = 3435 ∧ (b = n ∨ b = q)) → ¬ (x = 309 ∧ b = 38) → z_up (z_up (z_up s1 3435 n q) 3435 q n) 309 38 (s1 309 38 + 1) x b = s1 x b := fun x b w w2 => by
          rw [z_up_k2 w2, z_up_k2 (fun y => w ⟨y.1, Or.inr y.2⟩), z_up_k2 (fun y => w ⟨y.1, Or.inl y.2⟩)]
        generalize z_up (z_up (z_up s1 3435 n q) 3435 q n) 309 38 (s1 309 38 + 1) = s3 at gn gq g38 g3
        have fw3 : ∀ x b : Int, ¬ y_pw x b → s3 x b = s0 x b := fun x b p => (g3 x b (fun w => p (Or.inl w.1)) (fun w => p (Or.inr (Or.inr (Or.inr ⟨w.1, Or.inl w.2⟩))))).trans (fw x b p)
        have h3 : y_MU2 D s3 := h.fr (fw3 _ _ (by omega)) (fun x b p r => fw3 x b (by omega)) (fun j r => fw3 _ _ (by omega))
        have e39 : s3 309 39 = y_tn2 (D 0) (D 1) T n := (g3 _ _ (by omega) (by omega)).trans ((f1 309 39 (by omega) (by omega)).trans p4)
        refine T_if1 v_ob309 ?_
        refine T_let 3436 v_gm41 ?_
        refine T_if1 (v_x3436 o2b) ?_
        refine T_let q ((g3 _ _ (by omega) (by omega)).trans d2) ?_
        refine T_if1 v_ob309 ?_
        refine T_useN (em_ties hfu h3 (T := T) ⟨q2b.1, by omega⟩ (by rw [fw3 309 20 (by omega)]; omega) ((fw3 312 7 (by omega)).trans hT) hT2 (by omega)) (fun v s4 hq4 => ?_)
        obtain ⟨rfl, td, tn⟩ := hq4
        refine T_vN ?_
        refine T_of (fX12_laysPairs_J121.eq_1 ..) ?_
        refine T_let ((n + 1 : Nat) : Int) (by rw [v_wid (by omega)]; omega) ?_
        have ept : ∀ i : Int, y_pt (D 0) (n + 1) i = if i = n then q else if i = q then (n : Int) else y_pt (D 0) n i := fun i => by
          rw [y_pt_s, hq, if_pos yes]
        have rows : (∀ x b : Int, x ≠ 3437 → ¬ (x = 309 ∧ b = 39) → s4 x b = s3 x b) ∧ s4 309 39 = y_tn2 (D 0) (D 1) T (n + 1) ∧ ∀ v : Int, 0 ≤ v → v < (n + 1 : Nat) → s4 3437 v = y_tg (D 0) (D 1) T (n + 1) v := by
          have old : ∀ v : Int, 0 ≤ v → v < (n + 1 : Nat) → s3 3437 v = y_tg (D 0) (D 1) T n v := fun v a b => by
            rw [g3 3437 v (by omega) (by omega)]
            by_cases z : v = n
            · rw [z, q2]; exact (y_tg_z n n (Int.le_refl _)).symm
            · rw [f1 3437 v (by omega) (by omega)]; exact p3 v a (by omega)
          by_cases t : y_TD (D 1) T q n
          · obtain ⟨t1, t2, t3⟩ := td t
            refine ⟨fun x b p r => t3 x b (fun w => p w.1) r, ?_, fun v a b => ?_⟩
            · rw [t2, y_tn2_s, hq, if_pos ⟨yes, t⟩, e39]
            · rw [y_tg_s, hq, if_pos ⟨yes, t⟩]
              show s4 3437 v = if q ≤ v ∧ v < (n : Int) then (1 : Int) else y_tg (D 0) (D 1) T n v
              by_cases z : q ≤ v ∧ v < (n : Int)
              · rw [if_pos z]; exact t1 v z.1 z.2
              · rw [if_neg z, t3 3437 v (fun w => z w.2) (by omega)]; exact old v a b
          · have e4 := tn t
            refine ⟨fun x b p r => by rw [e4], ?_, fun v a b => ?_⟩
            · rw [e4, y_tn2_s, hq, if_neg (fun w => t w.2), e39]
            · rw [e4, y_tg_s, hq, if_neg (fun w => t w.2)]; exact old v a b
        obtain ⟨r1, r2, r3⟩ := rows
        refine ih F s4 o2 (n + 1) (by omega) (by omega) ⟨fun x a b => ?_, ?_, r3, r2⟩ (c7e _ (fun j a b => ?_)) (by omega) (fun x b p => ?_)
        · rw [ept, r1 3435 x (by decide) (by omega)]
          by_cases z1 : x = n
          · rw [if_pos z1, z1]; exact gn
          · rw [if_neg z1]
            by_cases z2 : x = q
            · rw [if_pos z2, z2]; exact gq
            · rw [if_neg z2, g3 3435 x (by omega) (by omega), f1 3435 x (by omega) (by omega)]
              exact p1 x a (by omega)
        · rw [y_pc_s, hq, if_pos yes, r1 309 38 (by decide) (by decide), g38, e38]
        · rw [r1 3436 j (by decide) (by omega), g3 3436 j (by omega) (by omega)]
        · rw [r1 x b (fun w => p (Or.inr (Or.inr (Or.inl w)))) (fun w => p (Or.inr (Or.inr (Or.inr ⟨w.1, Or.inr w.2⟩))))]
          exact fw3 x b p
    refine T_ite (fun k4 => ?_) (fun k4 => ?_)
    · refine rest s1 o (fun _ _ _ => rfl) (fun _ => ?_) (fun _ => ⟨by rw [e36]; exact ck, rfl⟩) (by omega)
      rw [e36]
      refine y_ck_lo ?_ ck
      rw [y_lo_s, if_neg (fun w => k4 w.1)]
    · have k4' : D 0 n = 4 := by omega
      refine T_if1 v_ob309 ?_
      refine T_let 3436 v_gm41 ?_
      refine T_if1 (v_x3436 ⟨by omega, by omega⟩) ?_
      refine T_up ?_
      refine T_let ((o + 1 : Nat) : Int) (by rw [v_wid (by omega)]; omega) ?_
      refine rest _ (o + 1) (fun x b w => z_up_k w) (fun _ => ?_) (fun w => by omega) (by omega)
      have l : y_lo (D 0) (y_pt (D 0) n) (n + 1) = n := by
        rw [y_lo_s, if_pos ⟨k4', ge⟩]
      refine ⟨by rw [l]; omega, by rw [l]; exact z_up_s, ?_⟩
      rw [l, show ((n : Int)).toNat = n by omega]
      refine y_ck_cg o n (fun _ _ _ => rfl) (fun j a b => ?_) ck
      rw [z_up_j (by omega), e36]
theorem em_laysPairs {fu : Nat} (hfu : 8589934592 ≤ fu) {D s : z_M} {T : Int} (h : y_MU2 D s) (hT : s 312 7 = T) (hT2 : 0 ≤ T ∧ T ≤ 1000) : z_T (fX12_laysPairs fu s 309) (fun v s' => v = vN ∧ y_PP D s' T (s 309 20).toNat ∧ ∀ x b : Int, ¬ y_pw x b → s' x b = s x b) := by
  have nn := h.1.1
  refine T_of (fX12_laysPairs.eq_1 ..) ?_
  refine T_if1 v_ob309 ?_
  refine T_up ?_
  refine T_if1 v_ob309 ?_
  refine T_up ?_
  have f0 : ∀ x b : Int, ¬ y_pw x b → z_up (z_up s 309 38 0) 309 39 0 x b = s x b := fun x b p => by
    rw [z_up_k2 (by omega), z_up_k2 (by omega)]
  have h1 : y_MU2 D (z_up (z_up s 309 38 0) 309 39 0) := h.fr (f0 _ _ (by omega)) (fun x b p r => f0 x b (by omega)) (fun j r => f0 _ _ (by omega))
  refine em_pairL (T := T) hfu h1 ((f0 _ _ (by omega)).trans hT) hT2 (fun s' pp f => T_ret ⟨rfl, ?_, fun x b p => (f x b p).trans (f0 x b p)⟩) (s 309 20).toNat fu _ 0 0 (by rw [f0 309 20 (by omega)]; omega) (by omega) ⟨fun x a b => by omega, by rw [z_up_j (by decide), z_up_s]; rfl, fun v a b => by omega, z_up_s⟩ (show y_lo (D 0) (y_pt (D 0) 0) 0 = -1 from rfl) (Nat.le_refl 0) (fun _ _ _ => rfl)
  rw [f0 309 20 (by omega)] at pp
  exact pp
/-! what is kept of LONG; freshens -/
/-- rows of what is kept, none known -/
theorem em_fr20 {fu : Nat} {a n : Int} {s0 : z_M} {k : z_M → z_O} {P : z_V → z_M → Prop} (ha : 0 ≤ a ∧ a < 200) (hn : n ≤ 200) (e : s0 309 20 = n) (hk : ∀ s' : z_M, (∀ b : Int, a ≤ b → b < n → s' (3235 + a) b = -1) → (∀ x y : Int, x ≠ 3235 + a → s' x y = s0 x y) → z_T (k s') P) :
    ∀ (m F : Nat) (s : z_M) (b : Int), n - b ≤ (m : Int) → m < F → a ≤ b → (∀ y : Int, a ≤ y → y < b → s (3235 + a) y = -1) → (∀ x y : Int, x ≠ 3235 + a → s x y = s0 x y) → z_T (fX12_freshens_L20 fu 309 a F s b k) P := by
  intro m
  induction m with
  | zero =>
    intro F s b h1 hF h3 g f
    obtain ⟨F, rfl⟩ : ∃ F2, F = F2 + 1 := ⟨F - 1, by omega⟩
    refine T_of (fX12_freshens_L20.eq_2 ..) ?_
    refine T_if1 v_ob309 ?_
    refine T_let n ((f _ _ (by omega)).trans e) ?_
    refine T_if1 (show n ≤ b by omega) ?_
    exact hk s (fun y p q => g y p (by omega)) f
  | succ m ih =>
    intro F s b h1 hF h3 g f
    obtain ⟨F, rfl⟩ : ∃ F2, F = F2 + 1 := ⟨F - 1, by omega⟩
    refine T_of (fX12_freshens_L20.eq_2 ..) ?_
    refine T_if1 v_ob309 ?_
    refine T_let n ((f _ _ (by omega)).trans e) ?_
    refine T_ite (fun q => hk s (fun y p r => g y p (by omega)) f) (fun q => ?_)
    refine T_if1 v_ob309 ?_
    refine T_let 3234 v_gm37 ?_
    refine T_if1 (v_x3234 ha) ?_
    refine T_let (3235 + a) (gr_3234 a) ?_
    refine T_if1 (v_xk ha ⟨by omega, by omega⟩) ?_
    refine T_up ?_
    refine T_let (b + 1) (v_wid (by omega)) ?_
    refine ih F _ (b + 1) (by omega) (by omega) (by omega) (fun y p r => ?_) (fun x y w => (z_up_k w).trans (f x y w))
    by_cases z : y = b
    · rw [z]; exact z_up_s
    · rw [z_up_j z]; exact g y p (by omega)
theorem em_fr10 {fu : Nat} {n : Int} {s0 : z_M} {k : z_M → z_O} {P : z_V → z_M → Prop} (hfu : 8589934592 ≤ fu) (hn : n ≤ 200) (e : s0 309 20 = n) (hk : ∀ s' : z_M, (∀ a b : Int, 0 ≤ a → a ≤ b → b < n → s' (3235 + a) b = -1) → (∀ x y : Int, ¬ (3235 ≤ x ∧ x ≤ 3434) → s' x y = s0 x y) → z_T (k s') P) :
    ∀ (m F : Nat) (s : z_M) (a : Int), n - a ≤ (m : Int) → m < F → 0 ≤ a → (∀ x b : Int, 0 ≤ x → x < a → x ≤ b → b < n → s (3235 + x) b = -1) → (∀ x y : Int, ¬ (3235 ≤ x ∧ x ≤ 3434) → s x y = s0 x y) → z_T (fX12_freshens_L10 fu 309 F s a k) P := by
  intro m
  induction m with
  | zero =>
    intro F s a h1 hF h3 g f
    obtain ⟨F, rfl⟩ : ∃ F2, F = F2 + 1 := ⟨F - 1, by omega⟩
    refine T_of (fX12_freshens_L10.eq_2 ..) ?_
    refine T_if1 v_ob309 ?_
    refine T_let n ((f _ _ (by decide)).trans e) ?_
    refine T_if1 (show n ≤ a by omega) ?_
    exact hk s (fun x b p q r => g x b p (by omega) q r) f
  | succ m ih =>
    intro F s a h1 hF h3 g f
    obtain ⟨F, rfl⟩ : ∃ F2, F = F2 + 1 := ⟨F - 1, by omega⟩
    refine T_of (fX12_freshens_L10.eq_2 ..) ?_
    refine T_if1 v_ob309 ?_
    refine T_let n ((f _ _ (by decide)).trans e) ?_
    refine T_ite (fun q => hk s (fun x b p q2 r => g x b p (by omega) q2 r) f) (fun q => ?_)
    have e20 : s 309 20 = n := (f _ _ (by decide)).trans e
    refine em_fr20 (s0 := s) ⟨h3, by omega⟩ hn e20 (fun s' g2 f2 => ?_) (n - a).toNat fu s a (by omega) (by omega) (Int.le_refl _) (fun y p r => by omega) (fun _ _ _ => rfl)
    refine T_let (a + 1) (v_wid (by omega)) ?_
    refine ih F s' (a + 1) (by omega) (by omega) (by omega) (fun x b p r w t => ?_) (fun x y w => (f2 x y (by omega)).trans (f x y w))
    by_cases z : x = a
    · subst z; exact g2 b w t
    · rw [f2 _ b (by omega)]; exact g x b p (by omega) w t
/-- what is kept is right -/
def y_KF (D s : z_M) : Prop := (∀ a b : Int, 0 ≤ a → a ≤ b → b < s 309 20 → s (3235 + a) b = -1 ∨ s (3235 + a) b = y_LG D a b (s 312 2)) ∧ y_PP D s (s 312 7) (s 309 20).toNat
theorem y_KF.fr {D s s' : z_M} (h : y_KF D s) (nn : s 309 20 ≤ 200) (e : s' 309 20 = s 309 20) (e2 : s' 312 2 = s 312 2) (e7 : s' 312 7 = s 312 7) (f : ∀ x b : Int, 3235 ≤ x ∧ x ≤ 3434 → s' x b = s x b) (fp : ∀ b : Int, s' 3435 b = s 3435 b ∧ s' 3437 b = s 3437 b) (e38 : s' 309 38 = s 309 38) (e39 : s' 309 39 = s 309 39) : y_KF D s' := by
  obtain ⟨h1, p1, p2, p3, p4⟩ := h
  refine ⟨fun a b p q r => ?_, ?_⟩
  · rw [e] at r
    rw [f _ b (by omega), e2]
    exact h1 a b p q r
  · rw [e, e7]
    exact ⟨fun x a b => by rw [(fp x).1]; exact p1 x a b, e38.trans p2, fun v a b => by rw [(fp v).2]; exact p3 v a b, e39.trans p4⟩
/-- cells that freshens writes on -/
abbrev y_fw (x b : Int) : Prop := (3235 ≤ x ∧ x ≤ 3437) ∨ (x = 309 ∧ (b = 36 ∨ b = 38 ∨ b = 39 ∨ b = 43))
theorem em_freshens {fu : Nat} (hfu : 8589934592 ≤ fu) {D s : z_M} (h : y_MU2 D s) (hT : 0 ≤ s 312 7 ∧ s 312 7 ≤ 1000) (hk : s 309 36 = 0 ∨ y_KF D s) : z_T (fX12_freshens fu s 309) (fun v s' => v = vN ∧ s' 309 36 ≠ 0 ∧ y_KF D s' ∧ (s 309 36 ≠ 0 → s' = s) ∧ (s 309 36 = 0 → s' 309 43 = 0) ∧ ∀ x b : Int, ¬ y_fw x b → s' x b = s x b) := by
  have nn := h.1.1
  refine T_of (fX12_freshens.eq_1 ..) ?_
  refine T_if1 v_ob309 ?_
  refine T_let (s 309 36) rfl ?_
  refine T_ite (fun q => ?_) (fun q => T_ret ⟨rfl, q, hk.resolve_left q, fun _ => rfl, fun w => absurd w q, fun _ _ _ => rfl⟩)
  refine em_fr10 hfu nn.2 rfl (fun s1 g f => ?_) (s 309 20).toNat fu s 0 (by omega) (by omega) (Int.le_refl 0) (fun x b p r => by omega) (fun _ _ _ => rfl)
  have h1 : y_MU2 D s1 := h.fr (f _ _ (by decide)) (fun x b p r => f x b (by omega)) (fun j r => f _ _ (by decide))
  refine T_if1 v_ob309 ?_
  refine T_useN (em_laysPairs hfu h1 (T := s 312 7) (f _ _ (by decide)) hT) (fun v s2 hq => ?_)
  obtain ⟨rfl, pp, f2⟩ := hq
  refine T_vN ?_
  refine T_if1 ⟨v_ob309, bl1⟩ ?_
  refine T_up ?_
  refine T_if1 ⟨v_ob309, bl0⟩ ?_
  refine T_up ?_
  have fz : ∀ x b : Int, ¬ (x = 309 ∧ (b = 36 ∨ b = 43)) → z_up (z_up s2 309 36 1) 309 43 0 x b = s2 x b := fun x b w => by
    rw [z_up_k2 (by omega), z_up_k2 (by omega)]
  have e20 : s2 309 20 = s 309 20 := (f2 _ _ (by omega)).trans (f _ _ (by decide))
  refine T_ret ⟨rfl, ?_, ?_, fun w => absurd q w, fun _ => z_up_s, fun x b w => ?_⟩
  · rw [z_up_j (by decide), z_up_s]; decide
  · have kf : y_KF D s2 := by
      refine ⟨fun a b p q2 r => Or.inl ?_, ?_⟩
      · rw [e20] at r
        rw [f2 _ b (by omega)]
        exact g a b p q2 r
      · rw [e20, f2 312 7 (by omega), f 312 7 (by decide)]
        rw [f 309 20 (by decide)] at pp
        exact pp
    exact kf.fr (by omega) (fz _ _ (by omega)) (fz _ _ (by omega)) (fz _ _ (by omega)) (fun x b w => fz x b (by omega)) (fun b => ⟨fz _ _ (by omega), fz _ _ (by omega)⟩) (fz _ _ (by omega)) (fz _ _ (by omega))
  · rw [fz x b (by omega), f2 x b (by omega)]
    exact f x b (by omega)
/-- LONG, asked for -/
theorem em_longAs {fu : Nat} (hfu : 8589934592 ≤ fu) {D s : z_M} (h : y_MU2 D s) (hT : 0 ≤ s 312 7 ∧ s 312 7 ≤ 1000) (hl : 0 ≤ s 312 2 ∧ s 312 2 ≤ 6) (hk : s 309 36 = 0 ∨ y_KF D s) {a b : Int} (ha : 0 ≤ a ∧ a ≤ b) (hb : b < s 309 20) :
    z_T (fX12_longAs fu s 309 a b) (fun v s' => v = vI (y_LG D a b (s 312 2)) ∧ s' 309 36 ≠ 0 ∧ y_KF D s' ∧ (s 309 36 = 0 → s' 309 43 = 0) ∧ (s 309 36 ≠ 0 → s' 309 43 = s 309 43) ∧ ∀ x y : Int, ¬ y_fw x y → ¬ (3224 ≤ x ∧ x ≤ 3233) → ¬ (x = 309 ∧ y = 35) → s' x y = s x y) := by
  have nn := h.1.1
  have a2 : 0 ≤ a ∧ a < 200 := by omega
  have b2 : 0 ≤ b ∧ b < 200 := by omega
  refine T_of (fX12_longAs.eq_1 ..) ?_
  refine T_if1 v_ob309 ?_
  refine T_useN (em_freshens hfu h hT hk) (fun v s1 hq => ?_)
  obtain ⟨rfl, n36, kf, same, z43, f1⟩ := hq
  refine T_vN ?_
  have e20 : s1 309 20 = s 309 20 := f1 _ _ (by omega)
  have e2 : s1 312 2 = s 312 2 := f1 _ _ (by omega)
  have k43 : s 309 36 ≠ 0 → s1 309 43 = s 309 43 := fun w => by rw [same w]
  have h1 : y_MU2 D s1 := h.fr e20 (fun x b p r => f1 x b (by omega)) (fun j r => f1 _ _ (by omega))
  have lb := y_LG_b h.2.2.2 ha.1 hb nn.2 hl
  have kab := kf.1 a b ha.1 ha.2 (by omega)
  rw [e2] at kab
  refine T_if1 v_ob309 ?_
  refine T_let 3234 v_gm37 ?_
  refine T_if1 (v_x3234 a2) ?_
  refine T_let (3235 + a) (gr_3234 a) ?_
  refine T_if1 (v_xk a2 b2) ?_
  refine T_let (s1 (3235 + a) b) rfl ?_
  refine T_ite (fun q => ?_) (fun q => ?_)
  · refine T_of (fX12_longAs_J30.eq_1 ..) ?_
    refine T_if1 v_ob309 ?_
    refine T_let 3234 v_gm37 ?_
    refine T_if1 (v_x3234 a2) ?_
    refine T_let (3235 + a) (gr_3234 a) ?_
    refine T_if1 (v_xk a2 b2) ?_
    refine T_let (y_LG D a b (s 312 2)) (by omega) ?_
    exact T_ret ⟨rfl, n36, kf, z43, k43, fun x y w _ _ => f1 x y w⟩
  · refine T_if1 v_ob309 ?_
    refine T_let 3234 v_gm37 ?_
    refine T_if1 (v_x3234 a2) ?_
    refine T_let (3235 + a) (gr_3234 a) ?_
    refine T_if1 v_ob309 ?_
    refine T_useI (em_lays hfu h1 ha (by omega) e2 hl) (fun v s2 hq => ?_)
    obtain ⟨rfl, ln, f2⟩ := hq
    refine T_vI ?_
    refine T_if1 (v_xk a2 b2) ?_
    refine T_up ?_
    have kf2 : y_KF D s2 := kf.fr (by omega) (f2 _ _ (by decide) (by decide)) (f2 _ _ (by decide) (by decide)) (f2 _ _ (by decide) (by decide)) (fun x y w => f2 x y (by omega) (by omega)) (fun y => ⟨f2 _ _ (by decide) (by omega), f2 _ _ (by decide) (by omega)⟩) (f2 _ _ (by decide) (by decide)) (f2 _ _ (by decide) (by decide))
    have e22 : s2 312 2 = s 312 2 := (f2 _ _ (by decide) (by decide)).trans e2
    refine T_of (fX12_longAs_J30.eq_1 ..) ?_
    refine T_if1 v_ob309 ?_
    refine T_let 3234 v_gm37 ?_
    refine T_if1 (v_x3234 a2) ?_
    refine T_let (3235 + a) (gr_3234 a) ?_
    refine T_if1 (v_xk a2 b2) ?_
    refine T_let (y_LG D a b (s 312 2)) z_up_s ?_
    have g : ∀ x y : Int, x ≠ 3235 + a → z_up s2 (3235 + a) b (y_LG D a b (s 312 2)) x y = s2 x y := fun x y w => z_up_k w
    refine T_ret ⟨rfl, ?_, ⟨fun c d p q2 r => ?_, ?_⟩, fun w => ?_, fun w => ?_, fun x y w w2 w3 => ?_⟩
    · rw [g 309 36 (by omega), f2 309 36 (by decide) (by decide)]; exact n36
    · rw [g 309 20 (by omega)] at r
      rw [g 312 2 (by omega), e22]
      by_cases z : c = a
      · subst z
        by_cases z2 : d = b
        · subst z2; right; exact z_up_s
        · rw [z_up_j z2, ← e22]; exact kf2.1 c d p q2 r
      · rw [g (3235 + c) d (by omega), ← e22]; exact kf2.1 c d p q2 r
    · obtain ⟨p1, p2, p3, p4⟩ := kf2.2
      rw [g 309 20 (by omega), g 312 7 (by omega)]
      exact ⟨fun x a b => by rw [g 3435 x (by omega)]; exact p1 x a b, (g 309 38 (by omega)).trans p2, fun v a b => by rw [g 3437 v (by omega)]; exact p3 v a b, (g 309 39 (by omega)).trans p4⟩
    · rw [g 309 43 (by omega), f2 309 43 (by decide) (by decide)]; exact z43 w
    · rw [g 309 43 (by omega), f2 309 43 (by decide) (by decide)]; exact k43 w
    · rw [g x y (by omega), f2 x y w2 w3]; exact f1 x y w
