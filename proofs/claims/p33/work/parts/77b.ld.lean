/-! lend: the least LONG of all units, over all LENDs; the first LEND that has it -/
def y_lv (L : Int → Int) : Nat → Int
  | 0 => L 0
  | m + 1 => if L ((m : Int) + 1) < y_lv L m then L ((m : Int) + 1) else y_lv L m
def y_lb (L : Int → Int) : Nat → Int
  | 0 => 0
  | m + 1 => if L ((m : Int) + 1) < y_lv L m then (m : Int) + 1 else y_lb L m
theorem y_lv_s {L : Int → Int} {m : Nat} : y_lv L (m + 1) = if L ((m : Int) + 1) < y_lv L m then L ((m : Int) + 1) else y_lv L m := rfl
theorem y_lb_s {L : Int → Int} {m : Nat} : y_lb L (m + 1) = if L ((m : Int) + 1) < y_lv L m then (m : Int) + 1 else y_lb L m := rfl
theorem y_lv_nn {L : Int → Int} (h : ∀ i : Int, 0 ≤ i → i ≤ 6 → 0 ≤ L i) : ∀ m : Nat, m ≤ 6 → 0 ≤ y_lv L m := by
  intro m
  induction m with
  | zero => intro _; exact h 0 (by decide) (by decide)
  | succ m ih =>
    intro q
    rw [y_lv_s]
    by_cases c : L ((m : Int) + 1) < y_lv L m
    · rw [if_pos c]; exact h _ (by omega) (by omega)
    · rw [if_neg c]; exact ih (by omega)
def y_ld (D : z_M) (n w : Int) : Int := if w = 0 then y_lb (fun ln => y_LG D 0 (n - 1) ln) 6 else y_lv (fun ln => y_LG D 0 (n - 1) ln) 6
theorem v_g1_7 : z_gr 1 7 = 220 := by decide +kernel
theorem v_pk2 : (if 0 ≤ (2 : Int) ∧ (2 : Int) < 9 then z_tb 0 (2 : Int).toNat else 0) = 0 ∧ (if 0 ≤ (2 : Int) ∧ (2 : Int) < 9 then z_tb 1 (2 : Int).toNat else 0) = 6 := by decide +kernel
theorem e_lend43 {fu : Nat} (hfu : 8589934592 ≤ fu) {D s0 : z_M} {n w : Int} {L : Int → Int} {k : z_M → Int → Int → z_O} {P : z_V → z_M → Prop} (hL : ∀ ln : Int, L ln = y_LG D 0 (n - 1) ln) (hu : y_CU2 D s0) (en : s0 191 16 = n) (hk : ∀ s' : z_M, (∀ x y : Int, ¬ y_mw x y → s' x y = s0 x y) → z_T (k s' (y_lb L 6) (y_lv L 6)) P) :
    ∀ (m F : Nat) (s : z_M) (a b c : Int) (j : Nat), j + m = 6 → m < F → a = y_lb L j → b = y_lv L j → c = (j : Int) + 1 → (∀ x y : Int, ¬ y_mw x y → s x y = s0 x y) → z_T (fX11_lend_L43 fu 1 w F s a b c k) P := by
  intro m
  induction m with
  | zero =>
    intro F s a b c j h1 hF ha hb hc f
    obtain ⟨F, rfl⟩ : ∃ F2, F = F2 + 1 := ⟨F - 1, by omega⟩
    have j6 : j = 6 := by omega
    subst j6
    refine T_of (fX11_lend_L43.eq_2 ..) ?_
    refine T_pick (by decide) (fun x e _ => ?_)
    have ex : x = 6 := e.symm.trans v_pk2.2
    refine T_if1 (show x < c by omega) ?_
    rw [ha, hb]
    exact hk s f
  | succ m ih =>
    intro F s a b c j h1 hF ha hb hc f
    obtain ⟨F, rfl⟩ : ∃ F2, F = F2 + 1 := ⟨F - 1, by omega⟩
    have hn := hu.1
    have cu : y_CU2 D s := hu.fr (f _ _ (by decide)) (f _ _ (by decide)) (fun x y p q => f x y (by omega))
    have es : s 191 16 = n := (f _ _ (by decide)).trans en
    refine T_of (fX11_lend_L43.eq_2 ..) ?_
    refine T_pick (by decide) (fun x e _ => ?_)
    have ex : x = 6 := e.symm.trans v_pk2.2
    refine T_if0 (show ¬ x < c by omega) ?_
    refine T_if1 v_ob1 ?_
    refine T_let 220 v_g1_7 ?_
    refine T_if1 v_ob1 ?_
    refine T_let 191 v_g1_6 ?_
    refine T_if1 v_ob191 ?_
    refine T_let n es ?_
    refine T_let (n - 1) (v_wid (by omega)) ?_
    refine T_if1 v_220.1 ?_
    refine T_useI (e_longWith hfu cu (a := 0) (b := n - 1) (ln := c) ⟨Int.le_refl 0, by omega⟩ (by omega) (fun _ => rfl) ⟨by omega, by omega⟩) (fun v s1 hq => ?_)
    obtain ⟨rfl, f1⟩ := hq
    refine T_vI ?_
    rw [← hL]
    have fr : ∀ x y : Int, ¬ y_mw x y → s1 x y = s0 x y := fun x y q => (f1 x y q).trans (f x y q)
    refine T_ite (fun q => ?_) (fun q => ?_)
    · refine T_of (fX11_lend_J88.eq_1 ..) ?_
      refine T_let (c + 1) (v_wid (by omega)) ?_
      refine ih F s1 a b (c + 1) (j + 1) (by omega) (by omega) ?_ ?_ (by omega) fr
      · rw [y_lb_s, if_neg (by rw [← hc, ← hb]; omega)]; exact ha
      · rw [y_lv_s, if_neg (by rw [← hc, ← hb]; omega)]; exact hb
    · refine T_of (fX11_lend_J88.eq_1 ..) ?_
      refine T_let (c + 1) (v_wid (by omega)) ?_
      refine ih F s1 c (L c) (c + 1) (j + 1) (by omega) (by omega) ?_ ?_ (by omega) fr
      · rw [y_lb_s, if_pos (by rw [← hc, ← hb]; omega)]; exact hc
      · rw [y_lv_s, if_pos (by rw [← hc, ← hb]; omega), ← hc]
theorem e_clend {fu : Nat} (hfu : 8589934592 ≤ fu) {s : z_M} (c : z_CI s) (h : y_V2 s) {w : Int} (hu : ∀ sr, y_RF s sr → y_CU2 (y_dc sr) sr) : z_T (fX11_lend fu s 1 w) (fun v _ => y_QA s v (0 ≤ w ∧ w ≤ 1) (fun sr => y_ld (y_dc sr) (sr 191 16) w)) := by
  refine T_of (fX11_lend.eq_1 ..) ?_
  refine T_if1 v_ob1 ?_
  refine T_nwn (fun n => T_ret (Or.inl ⟨n, rfl⟩)) (fun h0 h1 => ?_)
  refine T_if1 v_ob1 ?_
  refine T_useN (e_fresh hfu c h) (fun v sr hq => ?_)
  obtain ⟨rfl, rf⟩ := hq
  refine T_vN ?_
  have cu := hu sr rf
  have hn := cu.1
  refine T_pick (by decide) (fun x e _ => ?_)
  have ex : x = 0 := e.symm.trans v_pk2.1
  clear e
  subst ex
  refine T_if1 v_ob1 ?_
  refine T_let 220 v_g1_7 ?_
  refine T_if1 v_ob1 ?_
  refine T_let 191 v_g1_6 ?_
  refine T_if1 v_ob191 ?_
  refine T_let (sr 191 16) rfl ?_
  refine T_let (sr 191 16 - 1) (v_wid (by omega)) ?_
  refine T_if1 v_220.1 ?_
  refine T_useI (e_longWith hfu cu (a := 0) (b := sr 191 16 - 1) (ln := 0) ⟨Int.le_refl 0, by omega⟩ (by omega) (fun _ => rfl) ⟨Int.le_refl 0, by decide⟩) (fun v s1 hq => ?_)
  obtain ⟨rfl, f1⟩ := hq
  refine T_vI ?_
  refine T_let 1 (by decide +kernel) ?_
  refine e_lend43 hfu (D := y_dc sr) (n := sr 191 16) (s0 := sr) (L := fun ln => y_LG (y_dc sr) 0 (sr 191 16 - 1) ln) (fun _ => rfl) cu rfl (fun s' f' => ?_) 6 fu s1 0 _ 1 0 (by omega) (by omega) rfl rfl rfl f1
  refine T_ite (fun q => ?_) (fun q => ?_)
  · refine T_of (fX11_lend_J103.eq_1 ..) ?_
    refine T_ret (Or.inr ⟨⟨h0, h1⟩, sr, rf, ?_⟩)
    exact congrArg vI (show _ = y_ld (y_dc sr) (sr 191 16) w by unfold y_ld; rw [if_neg q])
  · refine T_of (fX11_lend_J103.eq_1 ..) ?_
    refine T_ret (Or.inr ⟨⟨h0, h1⟩, sr, rf, ?_⟩)
    exact congrArg vI (show _ = y_ld (y_dc sr) (sr 191 16) w by unfold y_ld; rw [if_pos (show w = 0 by omega)])
/-- the reference's lend -/
abbrev y_dw (x y : Int) : Prop := (3224 ≤ x ∧ x ≤ 3233) ∨ (x = 309 ∧ y = 35) ∨ (x = 312 ∧ y = 2)
def y_DI (L : Int → Int) (j : Nat) (a b : Int) : Prop := (j = 0 ∧ a = 0 ∧ b = -1) ∨ ∃ i : Nat, j = i + 1 ∧ a = y_lb L i ∧ b = y_lv L i
theorem em_ld82 {fu : Nat} {s : z_M} {w a2 a3 a4 t : Int} {j : Nat} {L : Int → Int} {r : z_M → Int → Int → Int → z_O} {k : z_M → Int → Int → z_O} {P : z_V → z_M → Prop} (hj : j ≤ 6) (nn : ∀ i : Int, 0 ≤ i → i ≤ 6 → 0 ≤ L i) (ht : t = L j) (di : y_DI L j a3 a4) (hr : ∀ a b : Int, y_DI L (j + 1) a b → z_T (r s a b ((j : Int) + 1)) P) : z_T (fX12_lend_J82 fu s 309 w a2 a3 a4 j t r k) P := by
  have fin : ∀ a b : Int, y_DI L (j + 1) a b → z_T (fX12_lend_J107 fu s 309 w a2 a b j r k) P := fun a b d => by
    refine T_of (fX12_lend_J107.eq_1 ..) ?_
    refine T_let ((j : Int) + 1) (v_wid (by omega)) ?_
    exact hr a b d
  have take : y_DI L (j + 1) j t → z_T (fX12_lend_J100 fu s 309 w a2 j t r k) P := fun d => by
    refine T_of (fX12_lend_J100.eq_1 ..) ?_
    exact fin _ _ d
  refine T_of (fX12_lend_J82.eq_1 ..) ?_
  rcases di with ⟨j0, ea, eb⟩ | ⟨i, ji, ea, eb⟩
  · refine T_if1 eb (take (Or.inr ⟨0, by omega, ?_, ?_⟩))
    · subst j0; rfl
    · rw [ht, j0]; rfl
  · have p := y_lv_nn nn i (by omega)
    refine T_if0 (show ¬ a4 = -1 by omega) ?_
    have ei : (j : Int) = (i : Int) + 1 := by omega
    refine T_ite (fun q => take (Or.inr ⟨i + 1, by omega, ?_, ?_⟩)) (fun q => fin _ _ (Or.inr ⟨i + 1, by omega, ?_, ?_⟩))
    · rw [y_lb_s, if_pos (by rw [← ei, ← ht, ← eb]; exact q)]; exact ei
    · rw [y_lv_s, if_pos (by rw [← ei, ← ht, ← eb]; exact q), ← ei]; exact ht
    · rw [y_lb_s, if_neg (by rw [← ei, ← ht, ← eb]; exact q)]; exact ea
    · rw [y_lv_s, if_neg (by rw [← ei, ← ht, ← eb]; exact q)]; exact eb
theorem em_lend45 {fu : Nat} (hfu : 8589934592 ≤ fu) {D s0 : z_M} {n w a2 : Int} {L : Int → Int} {k : z_M → Int → Int → z_O} {P : z_V → z_M → Prop} (hL : ∀ ln : Int, L ln = y_LG D 0 (n - 1) ln) (hu : y_MU2 D s0) (en : s0 309 20 = n) (hk : ∀ s' : z_M, (∀ x y : Int, ¬ y_dw x y → s' x y = s0 x y) → z_T (k s' (y_lb L 6) (y_lv L 6)) P) :
    ∀ (m F : Nat) (s : z_M) (a b c : Int) (j : Nat), j + m = 7 → m < F → y_DI L j a b → c = (j : Int) → (∀ x y : Int, ¬ y_dw x y → s x y = s0 x y) → z_T (fX12_lend_L45 fu 309 w a2 F s a b c k) P := by
  have nn : 0 ≤ n ∧ n ≤ 200 := by have := hu.1.1; omega
  have Lb : ∀ i : Int, 0 ≤ i → i ≤ 6 → 0 ≤ L i := fun i p q => by
    rw [hL]
    exact (y_LG_b hu.2.2.2 (Int.le_refl 0) (show n - 1 < s0 309 20 by omega) hu.1.1.2 ⟨p, q⟩).1
  intro m
  induction m with
  | zero =>
    intro F s a b c j h1 hF di hc f
    obtain ⟨F, rfl⟩ : ∃ F2, F = F2 + 1 := ⟨F - 1, by omega⟩
    refine T_of (fX12_lend_L45.eq_2 ..) ?_
    refine T_if1 (show (6 : Int) < c by omega) ?_
    rcases di with ⟨j0, _⟩ | ⟨i, ji, ea, eb⟩
    · omega
    · have i6 : i = 6 := by omega
      subst i6
      rw [ea, eb]
      exact hk s f
  | succ m ih =>
    intro F s a b c j h1 hF di hc f
    obtain ⟨F, rfl⟩ : ∃ F2, F = F2 + 1 := ⟨F - 1, by omega⟩
    subst hc
    refine T_of (fX12_lend_L45.eq_2 ..) ?_
    refine T_if0 (show ¬ (6 : Int) < (j : Int) by omega) ?_
    refine T_if1 v_ob309 ?_
    refine T_let 312 v_gm9 ?_
    refine T_if1 (v_x312 (by decide)) ?_
    refine T_up ?_
    have f9 : ∀ x y : Int, ¬ y_dw x y → z_up s 312 2 (j : Int) x y = s0 x y := fun x y q => (z_up_k2 (by omega)).trans (f x y q)
    have g9 : z_up s 312 2 (j : Int) 312 2 = (j : Int) := z_up_s
    generalize z_up s 312 2 (j : Int) = s9 at f9 g9
    have e9 : s9 309 20 = n := (f9 _ _ (by decide)).trans en
    have h9 : y_MU2 D s9 := hu.fr (f9 _ _ (by decide)) (fun x y p q => f9 x y (by omega)) (fun i q => f9 _ _ (by omega))
    refine T_if1 v_ob309 ?_
    refine T_let n e9 ?_
    refine T_ite (fun q => ?_) (fun q => ?_)
    · refine T_if1 v_ob309 ?_
      refine T_let n e9 ?_
      refine T_let (n - 1) (v_wid (by omega)) ?_
      refine T_if1 v_ob309 ?_
      refine T_useI (em_lays hfu h9 (a := 0) (b := n - 1) (ln := (j : Int)) ⟨Int.le_refl 0, by omega⟩ (by omega) g9 ⟨by omega, by omega⟩) (fun v s2 hq => ?_)
      obtain ⟨rfl, _, f2⟩ := hq
      refine T_vI ?_
      exact em_ld82 (L := L) (by omega) Lb (hL _).symm di (fun a b d => ih F s2 a b _ (j + 1) (by omega) (by omega) d (by omega) (fun x y p => (f2 x y (by omega) (by omega)).trans (f9 x y p)))
    · have n0 : n = 0 := by omega
      refine em_ld82 (L := L) (by omega) Lb ?_ di (fun a b d => ih F s9 a b _ (j + 1) (by omega) (by omega) d (by omega) f9)
      rw [hL, n0]; rfl
theorem em_lend {fu : Nat} (hfu : 8589934592 ≤ fu) {D s : z_M} {w : Int} (hu : y_MU2 D s) : z_T (fX12_lend fu s 309 w) (fun v s' => ∃ y, v = vI y ∧ y_A1 s' (0 ≤ w ∧ w ≤ 1) y (y_ld D (s 309 20) w)) := by
  refine T_of (fX12_lend.eq_1 ..) ?_
  refine T_if1 v_ob309 ?_
  refine T_up ?_
  obtain ⟨e0, kk⟩ := em_zero (s := s)
  generalize z_up s 309 0 0 = s1 at e0 kk
  have en : s1 309 20 = s 309 20 := kk _ _ (by decide)
  have h1 : y_MU2 D s1 := hu.fr en (fun x y p q => kk x y (by omega)) (fun i q => kk _ _ (by omega))
  refine T_bI (T_of em_in (T_rI ?_))
  by_cases h : 0 ≤ w ∧ w ≤ 1
  · rw [if_pos h]
    refine T_if1 (by decide) ?_
    refine T_of (fX12_lend_J20.eq_1 ..) ?_
    refine T_if1 v_ob309 ?_
    refine T_bI (T_of (em_bad0 e0) (T_rI ?_))
    refine T_if1 rfl ?_
    refine T_if1 v_ob309 ?_
    refine T_let 312 v_gm9 ?_
    refine T_if1 (v_x312 (by decide)) ?_
    refine T_let (s1 312 2) rfl ?_
    refine em_lend45 hfu (D := D) (n := s 309 20) (s0 := s1) (L := fun ln => y_LG D 0 (s 309 20 - 1) ln) (fun _ => rfl) h1 en (fun s' f' => ?_) 7 fu s1 0 (-1) 0 0 (by omega) (by omega) (Or.inl ⟨rfl, rfl, rfl⟩) rfl (fun _ _ _ => rfl)
    refine T_if1 v_ob309 ?_
    refine T_let 312 v_gm9 ?_
    refine T_if1 (v_x312 (by decide)) ?_
    refine T_up ?_
    refine T_if1 ⟨v_ob309, bl0⟩ ?_
    refine T_up ?_
    have z0 : z_up (z_up s' 312 2 (s1 312 2)) 309 43 0 309 0 = 0 := by
      rw [z_up_j (by decide), z_up_k (by decide), f' 309 0 (by decide)]; exact e0
    refine T_ite (fun q => ?_) (fun q => ?_)
    · refine T_of (fX12_lend_J135.eq_1 ..) ?_
      refine T_ret ⟨_, rfl, Or.inr ⟨h, z0, ?_⟩⟩
      unfold y_ld
      rw [if_neg q]
    · refine T_of (fX12_lend_J135.eq_1 ..) ?_
      refine T_ret ⟨_, rfl, Or.inr ⟨h, z0, ?_⟩⟩
      unfold y_ld
      rw [if_pos (show w = 0 by omega)]
  · rw [if_neg h]
    refine T_if0 (by decide) ?_
    refine T_of (fX12_lend_J20.eq_1 ..) ?_
    refine T_if1 v_ob309 ?_
    refine T_useI (em_bad1 e0 (by decide) (Or.inr rfl)) (fun v s2 hq => ?_)
    obtain ⟨rfl, q1, _⟩ := hq
    refine T_vI ?_
    refine T_if0 (by decide) ?_
    exact T_ret ⟨_, rfl, Or.inl ⟨h, q1⟩⟩
/-- both sides -/
theorem y_BT.n {g s : z_M} (b : y_BT g s) : g 191 16 = s 309 20 := (b.2.1.1.EU b.1.2.1 b.2.2.1).1
theorem y_BT.CUd {g s : z_M} (b : y_BT g s) : y_CU2 (y_dc g) g := by rw [b.D]; exact b.CU
theorem q_lend {g s : z_M} (b : y_BT g s) {w : Int} : y_ld (y_dc g) (g 191 16) w = y_ld (y_dm s) (s 309 20) w := by rw [b.D, b.n]
