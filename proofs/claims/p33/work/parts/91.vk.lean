/-! VALUES that rest on what is kept: partner, ends, longOf, lines -/
theorem e_freshK {fu : Nat} (hfu : 8589934592 ≤ fu) {s : z_M} (c : z_CI s) (h : y_V3 s) : z_T (fX11_refresh fu s 1) (fun v s' => v = vN ∧ y_RF s s' ∧ y_U3 s' ∧ y_SV 240 s') := by
  refine T_mono (sf_X11_refresh_1K hfu s c h) (fun v s' q => ?_)
  obtain ⟨c1, f, u, sa, e⟩ := q
  exact ⟨e, ⟨c1, u.1, fun a b p q => f a b (by unfold R_X11_refresh_1; omega), fun a b p => f a b (by unfold R_X11_refresh_1; omega)⟩, u, sa⟩
/-- an answer told by what it must be -/
def y_QR (s : z_M) (v : z_V) (ok : Prop) (R : z_M → Int → Prop) : Prop := (¬ ok ∧ v = vX 1) ∨ (ok ∧ ∃ sr x, y_RF s sr ∧ v = vI x ∧ R sr x)
def y_AR1 (s' : z_M) (ok : Prop) (S : Int → Prop) (y : Int) : Prop := (¬ ok ∧ s' 309 0 = 1) ∨ (ok ∧ s' 309 0 = 0 ∧ S y)
theorem y_JR {s s1 s2 : z_M} {v0 : z_V} {ok : Prop} {R : z_M → Int → Prop} {S : Int → Prop} {x y : Int} (q : y_QR s v0 ok R) (vx : y_VX 0 1 s1 v0 x) (a : y_AR1 s2 ok S y) (o : s2 7658 0 = s1 7658 0) (e : ∀ sr z, ok → y_RF s sr → R sr z → S y → z = y) : s2 309 0 = x ∧ (x = 0 → s2 7658 0 = y) := by
  have a1 : ∀ F : z_M → Int, y_A1 s2 ok y y := fun _ => a.imp id (fun w => ⟨w.1, w.2.1, rfl⟩)
  rcases q with ⟨n, rfl⟩ | ⟨k, sr, z, rf, rfl, r⟩
  · exact y_J1 (s := s) (F := fun _ => 0) (Or.inl ⟨n, rfl⟩) vx (a1 (fun _ => 0)) o (fun _ k _ => absurd k n)
  · refine y_J1 (s := s) (F := fun _ => z) (Or.inr ⟨k, sr, rf, rfl⟩) vx (a1 (fun _ => 0)) o (fun _ _ _ => ?_)
    rcases a with ⟨n, _⟩ | ⟨_, _, sy⟩
    · exact absurd k n
    · exact e sr z k rf r sy
/-- partner -/
theorem e_cpartner {fu : Nat} (hfu : 8589934592 ≤ fu) {s : z_M} (c : z_CI s) (h : y_V2 s) (ht : ∀ sr, y_RF s sr → y_TOK sr) {p : Int} : z_T (fX11_partner fu s 1 p) (fun v _ => y_Q0 s v (fun sr => 0 ≤ p ∧ p < sr 191 16) (fun _ => True) (fun sr => y_pt (sr 193) (sr 191 16).toNat p)) := by
  refine T_of (fX11_partner.eq_1 ..) ?_
  refine T_if1 v_ob1 ?_
  refine T_useN (e_fresh hfu c h) (fun v sr hq => ?_)
  obtain ⟨rfl, rf⟩ := hq
  refine T_vN ?_
  have hn := CI_b rf.1 (k := 191) (j := 16) bd_191_16q
  refine T_if1 v_ob1 ?_
  refine T_let 191 v_g1_6 ?_
  refine T_if1 v_ob191 ?_
  refine T_let (sr 191 16) rfl ?_
  refine T_if1 v_ob1 ?_
  refine T_nen (fun n => T_ret ⟨sr, rf, Or.inl ⟨n, rfl⟩⟩) (fun h0 h1 => ?_)
  refine T_if1 v_ob1 ?_
  refine T_let 191 v_g1_6 ?_
  refine T_if1 v_ob191 ?_
  refine T_let 206 v_u9 ?_
  refine T_if1 v_r206.1.1 ?_
  refine T_getX v_r206 ⟨h0, by omega⟩ ?_
  refine T_ret ⟨sr, rf, Or.inr (Or.inr ⟨⟨h0, h1⟩, trivial, ?_⟩)⟩
  rw [(rf.2.1.2.2 (ht sr rf)).2.2.1.1 p h0 h1]
theorem y_Mk.z {D s s1 : z_M} (mk : y_Mk D s s) (k : ∀ a b : Int, ¬ (a = 309 ∧ b = 0) → s1 a b = s a b) : y_Mk D s1 s1 :=
  ⟨mk.1.fr (k _ _ (by decide)) (fun x y p q => k x y (by omega)) (fun i _ => k _ _ (by omega)), mk.2.1.imp (fun w => (k _ _ (by decide)).trans w) (fun w => w.fr mk.1.1.1.2 (k _ _ (by decide)) (k _ _ (by decide)) (k _ _ (by decide)) (fun x b _ => k x b (by omega)) (fun b => ⟨k _ _ (by omega), k _ _ (by omega)⟩) (k _ _ (by decide)) (k _ _ (by decide))), by rw [k 312 7 (by decide), k 312 2 (by decide)]; exact mk.2.2.1, fun _ _ _ _ _ => rfl⟩
theorem em_partner {fu : Nat} (hfu : 8589934592 ≤ fu) {D s : z_M} (mk : y_Mk D s s) {p : Int} : z_T (fX12_partner fu s 309 p) (fun v s' => ∃ y, v = vI y ∧ y_A2 s' (0 ≤ p ∧ p < s 309 20) True y (y_pt (D 0) (s 309 20).toNat p)) := by
  have nn := mk.1.1.1
  refine T_of (fX12_partner.eq_1 ..) ?_
  refine T_if1 v_ob309 ?_
  refine T_up ?_
  obtain ⟨e0, kk⟩ := em_zero (s := s)
  generalize z_up s 309 0 0 = s1 at e0 kk
  have en : s1 309 20 = s 309 20 := kk _ _ (by decide)
  have mk1 := mk.z kk
  refine T_if1 v_ob309 ?_
  refine T_bI (T_of (em_isUnit (by rw [en]; exact nn)) (T_rI ?_))
  rw [en]
  by_cases h : 0 ≤ p ∧ p < s 309 20
  · rw [if_pos h]
    refine T_if1 (by decide) ?_
    refine T_of (fX12_partner_J19.eq_1 ..) ?_
    refine T_if1 v_ob309 ?_
    refine T_bI (T_of (em_bad0 e0) (T_rI ?_))
    refine T_if1 rfl ?_
    refine T_if1 v_ob309 ?_
    refine T_useN (em_freshens hfu mk1.1 mk1.2.2.1.1 mk1.2.1) (fun v s2 hq => ?_)
    obtain ⟨rfl, _, kf, _, _, f2⟩ := hq
    refine T_vN ?_
    refine T_if1 v_ob309 ?_
    refine T_let 3435 v_gm40 ?_
    refine T_if1 (v_x3435 ⟨h.1, by omega⟩) ?_
    refine T_let (s2 3435 p) rfl ?_
    have e2 : s2 309 20 = s 309 20 := (f2 _ _ (by omega)).trans en
    refine T_ret ⟨_, rfl, Or.inr (Or.inr ⟨h, trivial, (f2 309 0 (by omega)).trans e0, ?_⟩)⟩
    have w := kf.2.1 p h.1 (by omega)
    rw [e2] at w
    exact w
  · rw [if_neg h]
    refine T_if0 (by decide) ?_
    refine T_of (fX12_partner_J19.eq_1 ..) ?_
    refine T_if1 v_ob309 ?_
    refine T_useI (em_bad1 e0 (by decide) (Or.inl rfl)) (fun v s2 hq => ?_)
    obtain ⟨rfl, q1, _⟩ := hq
    refine T_vI ?_
    refine T_if0 (by decide) ?_
    exact T_ret ⟨_, rfl, Or.inl ⟨h, q1⟩⟩
theorem q_partner {g s : z_M} (b : y_BT g s) {p : Int} (h : 0 ≤ p ∧ p < s 309 20) : y_pt (g 193) (g 191 16).toNat p = y_pt (y_dm s 0) (s 309 20).toNat p := by
  rw [b.n]
  refine congrFun (y_pt_cg _ (fun i a q => ?_)).1 p
  rw [← b.D, y_dc0 ⟨a, by rw [b.n]; omega⟩]
/-- ends -/
theorem e_cends {fu : Nat} (hfu : 8589934592 ≤ fu) {s : z_M} (c : z_CI s) (h : y_V2 s) (hk : ∀ sr, y_RF s sr → y_OKc sr) {p : Int} : z_T (fX11_ends fu s 1 p) (fun v _ => y_Q0 s v (fun sr => 0 ≤ p ∧ p < sr 191 16) (fun _ => True) (fun sr => y_me (y_dc sr) (sr 3 7) (sr 191 16) p)) := by
  refine T_of (fX11_ends.eq_1 ..) ?_
  refine T_if1 v_ob1 ?_
  refine T_useN (e_fresh hfu c h) (fun v sr hq => ?_)
  obtain ⟨rfl, rf⟩ := hq
  refine T_vN ?_
  have hn := CI_b rf.1 (k := 191) (j := 16) bd_191_16q
  refine T_if1 v_ob1 ?_
  refine T_let 191 v_g1_6 ?_
  refine T_if1 v_ob191 ?_
  refine T_let (sr 191 16) rfl ?_
  refine T_if1 v_ob1 ?_
  refine T_nen (fun n => T_ret ⟨sr, rf, Or.inl ⟨n, rfl⟩⟩) (fun h0 h1 => ?_)
  refine T_if1 v_ob1 ?_
  refine T_let 191 v_g1_6 ?_
  refine T_if1 v_ob191 ?_
  refine T_let 208 v_u10 ?_
  refine T_if1 v_r208.1.1 ?_
  refine T_getX v_r208 ⟨h0, by omega⟩ ?_
  have ok := hk sr rf
  have e : sr 209 p = y_me (y_dc sr) (sr 3 7) (sr 191 16) p := ok.1.me ok.2.1 ok.2.2.2.1 ok.2.2.1 ok.2.2.2.2.2.2 h0 h1
  have m := y_me_01 (D := y_dc sr) (T := sr 3 7) (n := sr 191 16) (u := p)
  rw [e]
  refine T_ite (fun q => ?_) (fun q => ?_)
  · refine T_of (fX11_ends_J36.eq_1 ..) ?_
    refine T_if1 bl0 ?_
    refine T_ret ⟨sr, rf, Or.inr (Or.inr ⟨⟨h0, h1⟩, trivial, ?_⟩)⟩
    show vI 0 = vI (y_me (y_dc sr) (sr 3 7) (sr 191 16) p)
    rw [m.resolve_right q]
  · refine T_of (fX11_ends_J36.eq_1 ..) ?_
    refine T_if1 bl1 ?_
    refine T_ret ⟨sr, rf, Or.inr (Or.inr ⟨⟨h0, h1⟩, trivial, ?_⟩)⟩
    show vI 1 = vI (y_me (y_dc sr) (sr 3 7) (sr 191 16) p)
    rw [show y_me (y_dc sr) (sr 3 7) (sr 191 16) p = 1 by omega]
theorem em_ends {fu : Nat} (hfu : 8589934592 ≤ fu) {D s : z_M} (mk : y_Mk D s s) {p : Int} : z_T (fX12_ends fu s 309 p) (fun v s' => ∃ y, v = vI y ∧ y_A2 s' (0 ≤ p ∧ p < s 309 20) True y (y_me D (s 312 7) (s 309 20) p)) := by
  have nn := mk.1.1.1
  refine T_of (fX12_ends.eq_1 ..) ?_
  refine T_if1 v_ob309 ?_
  refine T_up ?_
  obtain ⟨e0, kk⟩ := em_zero (s := s)
  generalize z_up s 309 0 0 = s1 at e0 kk
  have en : s1 309 20 = s 309 20 := kk _ _ (by decide)
  have mk1 := mk.z kk
  refine T_if1 v_ob309 ?_
  refine T_bI (T_of (em_isUnit (by rw [en]; exact nn)) (T_rI ?_))
  rw [en]
  by_cases h : 0 ≤ p ∧ p < s 309 20
  · rw [if_pos h]
    refine T_if1 (by decide) ?_
    refine T_of (fX12_ends_J19.eq_1 ..) ?_
    refine T_if1 v_ob309 ?_
    refine T_bI (T_of (em_bad0 e0) (T_rI ?_))
    refine T_if1 rfl ?_
    refine T_if1 v_ob309 ?_
    refine T_useI (em_mayEnd hfu mk1.1 mk1.2.2.1.1 mk1.2.1 (by rw [en]; exact h)) (fun v s2 hq => ?_)
    obtain ⟨rfl, _, _, _, _, f2⟩ := hq
    refine T_vI ?_
    refine T_if1 (show z_bl (y_me D (s1 312 7) (s1 309 20) p) from y_me_01) ?_
    refine T_ret ⟨_, rfl, Or.inr (Or.inr ⟨h, trivial, (f2 309 0 (by omega)).trans e0, ?_⟩)⟩
    rw [en, kk 312 7 (by decide)]
  · rw [if_neg h]
    refine T_if0 (by decide) ?_
    refine T_of (fX12_ends_J19.eq_1 ..) ?_
    refine T_if1 v_ob309 ?_
    refine T_useI (em_bad1 e0 (by decide) (Or.inl rfl)) (fun v s2 hq => ?_)
    obtain ⟨rfl, q1, _⟩ := hq
    refine T_vI ?_
    refine T_if0 (by decide) ?_
    refine T_if1 bl0 ?_
    exact T_ret ⟨_, rfl, Or.inl ⟨h, q1⟩⟩
theorem q_ends {g s : z_M} (b : y_BT g s) {p : Int} : y_me (y_dc g) (g 3 7) (g 191 16) p = y_me (y_dm s) (s 312 7) (s 309 20) p := by rw [b.n, b.D, b.2.2.2.2.2 7]
/-- longOf -/
theorem e_clongOf {fu : Nat} (hfu : 8589934592 ≤ fu) {s : z_M} (c : z_CI s) (h : y_V3 s) (hk : ∀ sr, y_RF s sr → y_OKc sr) {a b : Int} : z_T (fX11_longOf fu s 1 a b) (fun v _ => y_Q0 s v (fun sr => (0 ≤ a ∧ a < sr 191 16) ∧ 0 ≤ b ∧ b < sr 191 16) (fun _ => a ≤ b) (fun sr => y_LG (y_dc sr) a b (sr 3 2))) := by
  refine T_of (fX11_longOf.eq_1 ..) ?_
  refine T_if1 v_ob1 ?_
  refine T_useN (e_freshK hfu c h) (fun v sr hq => ?_)
  obtain ⟨rfl, rf, u3, _⟩ := hq
  refine T_vN ?_
  have hn := CI_b rf.1 (k := 191) (j := 16) bd_191_16q
  refine T_if1 v_ob1 ?_
  refine T_let 191 v_g1_6 ?_
  refine T_if1 v_ob191 ?_
  refine T_let (sr 191 16) rfl ?_
  refine T_if1 v_ob1 ?_
  refine T_nen (fun n => T_ret ⟨sr, rf, Or.inl ⟨fun w => n w.1, rfl⟩⟩) (fun h0 h1 => ?_)
  refine T_if1 v_ob1 ?_
  refine T_let 191 v_g1_6 ?_
  refine T_if1 v_ob191 ?_
  refine T_let (sr 191 16) rfl ?_
  refine T_if1 v_ob1 ?_
  refine T_nen (fun n => T_ret ⟨sr, rf, Or.inl ⟨fun w => n w.2, rfl⟩⟩) (fun h2 h3 => ?_)
  refine T_if1 v_ob1 ?_
  refine T_let 191 v_g1_6 ?_
  refine T_if1 v_ob191 ?_
  refine T_let (sr 191 16) rfl ?_
  refine T_if1 v_ob1 ?_
  refine T_nwn (fun n => T_ret ⟨sr, rf, Or.inr (Or.inl ⟨⟨⟨h0, h1⟩, h2, h3⟩, fun w => n ⟨w, by omega⟩, rfl⟩)⟩) (fun h4 h5 => ?_)
  refine T_if1 v_ob1 ?_
  refine T_let 220 v_g1_7 ?_
  refine T_if1 v_220.1 ?_
  have ok := hk sr rf
  refine T_useI (e_lengthOf hfu ok.CU (u3.2 ok) ok.2.2.2.2.1 ⟨h0, h4⟩ h3) (fun v s1 hq => ?_)
  obtain ⟨rfl, _, _⟩ := hq
  refine T_vI ?_
  exact T_ret ⟨sr, rf, Or.inr (Or.inr ⟨⟨⟨h0, h1⟩, h2, h3⟩, h4, rfl⟩)⟩
theorem em_longOf {fu : Nat} (hfu : 8589934592 ≤ fu) {D s : z_M} (mk : y_Mk D s s) {a b : Int} : z_T (fX12_longOf fu s 309 a b) (fun v s' => ∃ y, v = vI y ∧ y_A2 s' ((0 ≤ a ∧ a < s 309 20) ∧ 0 ≤ b ∧ b < s 309 20) (a ≤ b) y (y_LG D a b (s 312 2))) := by
  have nn := mk.1.1.1
  refine T_of (fX12_longOf.eq_1 ..) ?_
  refine T_if1 v_ob309 ?_
  refine T_up ?_
  obtain ⟨e0, kk⟩ := em_zero (s := s)
  generalize z_up s 309 0 0 = s1 at e0 kk
  have en : s1 309 20 = s 309 20 := kk _ _ (by decide)
  have mk1 := mk.z kk
  have no : ¬ ((0 ≤ a ∧ a < s 309 20) ∧ 0 ≤ b ∧ b < s 309 20) → z_T (fX12_longOf_J22 fu s1 309 a b 309) (fun v s' => ∃ y, v = vI y ∧ y_A2 s' ((0 ≤ a ∧ a < s 309 20) ∧ 0 ≤ b ∧ b < s 309 20) (a ≤ b) y (y_LG D a b (s 312 2))) := fun n => by
    refine T_of (fX12_longOf_J22.eq_1 ..) ?_
    refine T_of (fX12_longOf_J27.eq_1 ..) ?_
    refine T_if1 v_ob309 ?_
    refine T_useI (em_bad1 e0 (by decide) (Or.inl rfl)) (fun v s2 hq => ?_)
    obtain ⟨rfl, q1, _⟩ := hq
    refine T_vI ?_
    refine T_if1 (by decide) ?_
    refine T_of (fX12_longOf_J54.eq_1 ..) ?_
    exact T_ret ⟨_, rfl, Or.inl ⟨n, q1⟩⟩
  refine T_if1 v_ob309 ?_
  refine T_bI (T_of (em_isUnit (by rw [en]; exact nn)) (T_rI ?_))
  rw [en]
  by_cases h : 0 ≤ a ∧ a < s 309 20
  · rw [if_pos h]
    refine T_if0 (by decide) ?_
    refine T_if1 v_ob309 ?_
    refine T_bI (T_of (em_isUnit (by rw [en]; exact nn)) (T_rI ?_))
    rw [en]
    by_cases h2 : 0 ≤ b ∧ b < s 309 20
    · rw [if_pos h2]
      refine T_if1 (by decide) ?_
      refine T_of (fX12_longOf_J27.eq_1 ..) ?_
      refine T_if1 v_ob309 ?_
      refine T_bI (T_of (em_bad0 e0) (T_rI ?_))
      refine T_if0 (by decide) ?_
      refine T_ite (fun h3 => ?_) (fun h3 => ?_)
      · refine T_of (fX12_longOf_J46.eq_1 ..) ?_
        refine T_if1 v_ob309 ?_
        refine T_bI (T_of (em_bad0 e0) (T_rI ?_))
        refine T_if1 rfl ?_
        refine T_if1 v_ob309 ?_
        refine T_useI (em_MKlen hfu mk1 ⟨h.1, h3⟩ (by rw [en]; exact h2.2)) (fun v s2 hq => ?_)
        obtain ⟨rfl, mk2⟩ := hq
        refine T_vI ?_
        refine T_ret ⟨_, rfl, Or.inr (Or.inr ⟨⟨h, h2⟩, h3, (mk2.2.2.2 309 0 (by omega) (by omega) (by omega)).trans e0, ?_⟩)⟩
        rw [kk 312 2 (by decide)]
      · refine T_of (fX12_longOf_J46.eq_1 ..) ?_
        refine T_if1 v_ob309 ?_
        refine T_useI (em_bad1 e0 (by decide) (Or.inr rfl)) (fun v s2 hq => ?_)
        obtain ⟨rfl, q1, _⟩ := hq
        refine T_vI ?_
        refine T_if0 (by decide) ?_
        refine T_of (fX12_longOf_J54.eq_1 ..) ?_
        exact T_ret ⟨_, rfl, Or.inr (Or.inl ⟨⟨h, h2⟩, h3, q1⟩)⟩
    · rw [if_neg h2]
      refine T_if0 (by decide) ?_
      exact no (fun w => h2 w.2)
  · rw [if_neg h]
    refine T_if1 rfl ?_
    exact no (fun w => h w.1)
theorem q_longOf {g s : z_M} (b : y_BT g s) {x y : Int} : y_LG (y_dc g) x y (g 3 2) = y_LG (y_dm s) x y (s 312 2) := by rw [b.D, b.2.2.2.2.2 2]
/-- lines -/
def y_Rl2 (D : z_M) (ln T n len md x : Int) : Prop := ∃ (nx r : Int → Int) (c : Nat), y_NX (fun a b => y_LG D a b ln) (y_cl2 (y_me D T n) n) n len md nx ∧ y_LR nx r n c ∧ x = (c : Int)
theorem y_Rl2.un {D : z_M} {ln T n len md x y : Int} (h : y_Rl2 D ln T n len md x) (h' : y_Rl2 D ln T n len md y) : x = y := by
  obtain ⟨nx, r, c, p, q, e⟩ := h
  obtain ⟨nx', r', c', p', q', e'⟩ := h'
  rw [e, e', (p.cnt p' q q').1]
theorem v_g1_9 : z_gr 1 9 = 249 := by decide +kernel
theorem v_pk0 : (if 0 ≤ (0 : Int) ∧ (0 : Int) < 9 then z_tb 0 (0 : Int).toNat else 0) = 12 ∧ (if 0 ≤ (0 : Int) ∧ (0 : Int) < 9 then z_tb 1 (0 : Int).toNat else 0) = 999 := by decide +kernel
theorem e_clines {fu : Nat} (hfu : 8589934592 ≤ fu) {s : z_M} (c : z_CI s) (h : y_V3 s) (hk : ∀ sr, y_RF s sr → y_OKc sr) {len md : Int} : z_T (fX11_lines fu s 1 len md) (fun v _ => y_QR s v ((12 ≤ len ∧ len ≤ 999) ∧ 0 ≤ md ∧ md ≤ 1) (fun sr x => y_Rl2 (y_dc sr) (sr 3 2) (sr 3 7) (sr 191 16) len md x)) := by
  refine T_of (fX11_lines.eq_1 ..) ?_
  refine T_pick (by decide) (fun x e _ => ?_)
  have ex : x = 12 := e.symm.trans v_pk0.1
  refine T_pick (by decide) (fun y e' _ => ?_)
  have ey : y = 999 := e'.symm.trans v_pk0.2
  clear e e'
  subst ex
  subst ey
  refine T_if1 v_ob1 ?_
  refine T_nwn (fun n => T_ret (Or.inl ⟨fun w => n w.1, rfl⟩)) (fun h0 h1 => ?_)
  refine T_if1 v_ob1 ?_
  refine T_nwn (fun n => T_ret (Or.inl ⟨fun w => n w.2, rfl⟩)) (fun h2 h3 => ?_)
  refine T_if1 v_ob1 ?_
  refine T_useN (e_freshK hfu c h) (fun v sr hq => ?_)
  obtain ⟨rfl, rf, u3, _⟩ := hq
  refine T_vN ?_
  have ok := hk sr rf
  refine T_if1 v_ob1 ?_
  refine T_let 249 v_g1_9 ?_
  refine T_if1 (v_br (o := 249) (Or.inr rfl)).1 ?_
  refine T_useN (e_go hfu (o := 249) (md := md) (Or.inr rfl) (ok.CM (u3.2 ok)) rfl (show 0 ≤ len ∧ len ≤ 10000 by omega)) (fun v s1 hq => ?_)
  obtain ⟨rfl, ⟨nx, k, p1, p2, p3, p4⟩, _, _⟩ := hq
  refine T_vN ?_
  refine T_if1 v_ob1 ?_
  refine T_let 249 v_g1_9 ?_
  refine T_if1 (v_br (o := 249) (Or.inr rfl)).1 ?_
  refine T_let (k : Int) p3 ?_
  exact T_ret (Or.inr ⟨⟨⟨h0, h1⟩, h2, h3⟩, sr, _, rf, rfl, nx, _, k, p1, p4, rfl⟩)
theorem em_lines {fu : Nat} (hfu : 8589934592 ≤ fu) {D s : z_M} (mk : y_Mk D s s) {len md : Int} : z_T (fX12_lines fu s 309 len md) (fun v s' => ∃ y, v = vI y ∧ y_AR1 s' ((12 ≤ len ∧ len ≤ 999) ∧ 0 ≤ md ∧ md ≤ 1) (fun y => y_Rl2 D (s 312 2) (s 312 7) (s 309 20) len md y) y) := by
  have nn := mk.1.1.1
  refine T_of (fX12_lines.eq_1 ..) ?_
  refine T_if1 v_ob309 ?_
  refine T_up ?_
  obtain ⟨e0, kk⟩ := em_zero (s := s)
  generalize z_up s 309 0 0 = s1 at e0 kk
  have en : s1 309 20 = s 309 20 := kk _ _ (by decide)
  have mk1 := mk.z kk
  have no : ¬ ((12 ≤ len ∧ len ≤ 999) ∧ 0 ≤ md ∧ md ≤ 1) → z_T (fX12_lines_J27 fu s1 309 len md 309) (fun v s' => ∃ y, v = vI y ∧ y_AR1 s' ((12 ≤ len ∧ len ≤ 999) ∧ 0 ≤ md ∧ md ≤ 1) (fun y => y_Rl2 D (s 312 2) (s 312 7) (s 309 20) len md y) y) := fun n => by
    refine T_of (fX12_lines_J27.eq_1 ..) ?_
    refine T_of (fX12_lines_J32.eq_1 ..) ?_
    refine T_if1 v_ob309 ?_
    refine T_useI (em_bad1 e0 (by decide) (Or.inr rfl)) (fun v s2 hq => ?_)
    obtain ⟨rfl, q1, _⟩ := hq
    refine T_vI ?_
    refine T_if0 (by decide) ?_
    exact T_ret ⟨_, rfl, Or.inl ⟨n, q1⟩⟩
  refine T_bI (T_of em_in (T_rI ?_))
  by_cases h : 12 ≤ len ∧ len ≤ 999
  · rw [if_pos h]
    refine T_if0 (by decide) ?_
    refine T_bI (T_of em_in (T_rI ?_))
    by_cases h2 : 0 ≤ md ∧ md ≤ 1
    · rw [if_pos h2]
      refine T_if1 (by decide) ?_
      refine T_of (fX12_lines_J32.eq_1 ..) ?_
      refine T_if1 v_ob309 ?_
      refine T_bI (T_of (em_bad0 e0) (T_rI ?_))
      refine T_if1 rfl ?_
      refine T_if1 v_ob309 ?_
      refine T_useI (em_breaks hfu (md := md) mk1 en (show 0 ≤ len ∧ len ≤ 10000 by omega)) (fun v s2 hq => ?_)
      obtain ⟨nx, k, rfl, p1, p2, p3, mk2, fl⟩ := hq
      refine T_vI ?_
      refine T_if1 ⟨v_ob309, bl0⟩ ?_
      refine T_up ?_
      refine T_ret ⟨_, rfl, Or.inr ⟨⟨h, h2⟩, ?_, nx, _, k, ?_, p3, rfl⟩⟩
      · rw [z_up_j (by decide), fl 309 0 (by omega) (by omega) (by omega) (by omega)]; exact e0
      · rw [kk 312 2 (by decide), kk 312 7 (by decide)] at p1; exact p1
    · rw [if_neg h2]
      refine T_if0 (by decide) ?_
      exact no (fun w => h2 w.2)
  · rw [if_neg h]
    refine T_if1 rfl ?_
    exact no (fun w => h w.1)
theorem q_lines {g s : z_M} (b : y_BT g s) {len md x y : Int} (h : y_Rl2 (y_dc g) (g 3 2) (g 3 7) (g 191 16) len md x) (h' : y_Rl2 (y_dm s) (s 312 2) (s 312 7) (s 309 20) len md y) : x = y := by
  rw [b.n, b.D, b.2.2.2.2.2 2, b.2.2.2.2.2 7] at h
  exact h.un h'
/-- both sides: units are what they should be -/
theorem y_BT.OKc {g s : z_M} (b : y_BT g s) (r2 : 0 ≤ g 3 2 ∧ g 3 2 ≤ 6) (r0 : 12 ≤ g 3 0 ∧ g 3 0 ≤ 999) : y_OKc g := by
  have d := b.DF.1
  have e := b.D
  have en := b.n
  have w4 := fun u h0 h1 k4 => b.w4 (u := u) h0 h1 k4
  have un := fun u h0 h1 => b.un (u := u) h0 h1
  obtain ⟨U, X, p, c, cg, st⟩ := b
  refine ⟨U, X.tok (y_n0 c).1, by rw [e, en]; exact d, CI_b cg (k := 191) (j := 16) bd_191_16q, r2, r0, fun x h0 h1 k4 => ?_⟩
  have w := un x h0 (by omega)
  rw [w.2.1]
  exact w4 x h0 (by omega) (by omega)
theorem y_BT.OKm {g s : z_M} (b : y_BT g s) (r2 : 0 ≤ s 312 2 ∧ s 312 2 ≤ 6) (r7 : 0 ≤ s 312 7 ∧ s 312 7 ≤ 1000) : y_OKm s := ⟨b.DF.2, b.DF.1, r7, r2⟩
theorem y_OKm.MK {s : z_M} (h : y_OKm s) (k : y_KM s) : y_Mk (y_dm s) s s := ⟨h.MU, k h, h.2.2, fun _ _ _ _ _ => rfl⟩
