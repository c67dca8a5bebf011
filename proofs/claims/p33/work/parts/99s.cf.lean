/-! VALUES that rest on the sides: the class -/
theorem y_YSs.su {s : z_M} (h : y_YSs s) : ∀ (m : Nat) (a b : Int), (m : Int) = b - a → 0 ≤ a → b < s 240 6 → s 304 b = s 304 a + y_su (s 302) a b := by
  intro m
  induction m with
  | zero =>
    intro a b e _ _
    rw [show b = a by omega, y_su0]
    omega
  | succ m ih =>
    intro a b e h0 h1
    have i := ih a (b - 1) (by omega) h0 (by omega)
    have s1 := y_suS (f := s 302) (a := a) (u := b - 1) (by omega)
    have y := (h.1 (b - 1) (by omega) (by omega)).2.2.1 (by omega)
    rw [show b - 1 + 1 = b by omega] at s1 y
    omega
abbrev y_Tc (s : z_M) : Int → Int → Int := y_THi (s 302) (s 306) (s 308)
theorem y_YSs.o {s : z_M} (h : y_YSs s) {i : Int} (h0 : 0 ≤ i) (h1 : i < s 240 6) : (0 ≤ s 306 i ∧ s 306 i ≤ 6) ∧ (0 ≤ s 308 i ∧ s 308 i ≤ 6) ∧ 0 ≤ s 304 i ∧ s 304 i ≤ 24 * i := by
  obtain ⟨⟨a1, a2⟩, _, _, a5⟩ := h.1 i h0 h1
  rw [a1, a2]
  exact ⟨y_ou_b, y_ou_b, a5⟩
theorem y_YSs.g {s : z_M} (h : y_YSs s) (b8 : 0 ≤ s 3 8) {i : Int} (h0 : 0 ≤ i) (h1 : i + 1 < s 240 6) : 0 ≤ s 302 i := by
  have y := (h.1 i h0 (by omega)).2.2.1 h1
  have s2 := h.o h0 (by omega)
  have zm := z_maxb (s 308 i) (s 306 (i + 1))
  rw [y.1]
  unfold y_gtt
  split <;> omega
theorem e_thickOf {fu : Nat} {s : z_M} (ys : y_YSs s) (h6 : s 240 6 ≤ 200) {a b : Int} (h0 : 0 ≤ a) (h1 : a ≤ b) (h2 : b < s 240 6) : fX8_thickOf fu s 296 a b = some (vI (y_Tc s a b), s) := by
  have oa := ys.o h0 (by omega)
  have ob := ys.o (i := b) (by omega) h2
  have su := ys.su (b - a).toNat a b (by omega) h0 h2
  refine T_eq ?_
  refine T_of (fX8_thickOf.eq_1 ..) ?_
  refine T_if1 (by decide +kernel) ?_
  refine T_let 303 (by decide +kernel) ?_
  refine T_if1 (by decide +kernel) ?_
  refine T_getV w_r303 (by omega) rfl ?_
  refine T_if1 (by decide +kernel) ?_
  refine T_let 303 (by decide +kernel) ?_
  refine T_if1 (by decide +kernel) ?_
  refine T_getV w_r303 (by omega) rfl ?_
  refine T_let ((s 304 b) - (s 304 a)) (v_wid (by omega)) ?_
  refine T_let (b - a) (v_wid (by omega)) ?_
  refine T_let ((b - a) + 1) (v_wid (by omega)) ?_
  refine T_let (12 * ((b - a) + 1)) (v_wid (by omega)) ?_
  refine T_let ((12 * ((b - a) + 1)) + ((s 304 b) - (s 304 a))) (v_wid (by omega)) ?_
  refine T_if1 (by decide +kernel) ?_
  refine T_let 305 (by decide +kernel) ?_
  refine T_if1 (by decide +kernel) ?_
  refine T_getV w_r305 (by omega) rfl ?_
  refine T_let (((12 * ((b - a) + 1)) + ((s 304 b) - (s 304 a))) + (s 306 a)) (v_wid (by omega)) ?_
  refine T_if1 (by decide +kernel) ?_
  refine T_let 307 (by decide +kernel) ?_
  refine T_if1 (by decide +kernel) ?_
  refine T_getV w_r307 (by omega) rfl ?_
  refine T_let ((((12 * ((b - a) + 1)) + ((s 304 b) - (s 304 a))) + (s 306 a)) + (s 308 b)) (v_wid (by omega)) ?_
  refine T_ret ⟨?_, rfl⟩
  have e : y_Tc s a b = 12 * (b - a + 1) + y_su (s 302) a b + s 306 a + s 308 b := rfl
  refine congrArg vI ?_
  rw [e]
  omega
theorem e_pageEnd {fu : Nat} (hfu : 8589934592 ≤ fu) {s : z_M} (ys : y_YSs s) (h6 : s 240 6 ≤ 200) {a v : Int} (h0 : 0 ≤ a) (h1 : a < s 240 6) : fX8_pageEnd fu s 296 a v = some (vI (y_pge (y_Tc s) (s 240 6) v a), s) := by
  have go : ∀ (m F : Nat) (e : Int), (m : Int) = s 240 6 - 1 - e → m < F → a ≤ e → z_T (fX8_pageEnd_L2 fu 296 a v F s e (fun s9 x10 => fX8_pageEnd_J33 fu s9 x10)) (fun r s' => r = vI (y_pe (y_Tc s a) (s 240 6) v m e) ∧ s' = s) := by
    have fin : ∀ e : Int, z_T (fX8_pageEnd_J33 fu s e) (fun r s' => r = vI e ∧ s' = s) := fun e => by
      refine T_of (fX8_pageEnd_J33.eq_1 ..) ?_
      exact T_ret ⟨rfl, rfl⟩
    intro m
    induction m with
    | zero =>
      intro F e h hF h2
      obtain ⟨F, rfl⟩ : ∃ F2, F = F2 + 1 := ⟨F - 1, by omega⟩
      rw [y_pe_0]
      refine T_of (fX8_pageEnd_L2.eq_2 ..) ?_
      refine T_let (e + 1) (v_wid (by omega)) ?_
      refine T_if1 (by decide +kernel) ?_
      refine T_let 258 (by decide +kernel) ?_
      refine T_if1 (by decide +kernel) ?_
      refine T_bI (T_of (fX3_lineCount.eq_1 ..) ?_)
      refine T_if1 (by decide +kernel) ?_
      refine T_let 240 (by decide +kernel) ?_
      refine T_if1 (by decide +kernel) ?_
      refine T_let (s 240 6) rfl ?_
      refine T_rI ?_
      refine T_if1 (by omega) ?_
      exact fin e
    | succ m ih =>
      intro F e h hF h2
      obtain ⟨F, rfl⟩ : ∃ F2, F = F2 + 1 := ⟨F - 1, by omega⟩
      rw [y_pe_s]
      refine T_of (fX8_pageEnd_L2.eq_2 ..) ?_
      refine T_let (e + 1) (v_wid (by omega)) ?_
      refine T_if1 (by decide +kernel) ?_
      refine T_let 258 (by decide +kernel) ?_
      refine T_if1 (by decide +kernel) ?_
      refine T_bI (T_of (fX3_lineCount.eq_1 ..) ?_)
      refine T_if1 (by decide +kernel) ?_
      refine T_let 240 (by decide +kernel) ?_
      refine T_if1 (by decide +kernel) ?_
      refine T_let (s 240 6) rfl ?_
      refine T_rI ?_
      refine T_if0 (by omega) ?_
      refine T_let (e + 1) (v_wid (by omega)) ?_
      refine T_if1 (by decide +kernel) ?_
      refine T_bI (T_of (e_thickOf ys h6 h0 (by omega) (by omega)) (T_rI ?_))
      refine T_ite (fun hT => ?_) (fun hT => ?_)
      · rw [if_neg (fun q => by have := q.2; omega)]
        exact fin e
      · refine T_let (e + 1) (v_wid (by omega)) ?_
        rw [if_pos ⟨by omega, by omega⟩]
        exact ih F (e + 1) (by omega) (by omega) (by omega)
  refine T_eq ?_
  refine T_of (fX8_pageEnd.eq_1 ..) ?_
  exact go (s 240 6 - 1 - a).toNat fu a (by omega) (by omega) (Int.le_refl _)
theorem z_max_r {x y : Int} (h : x ≤ y) : z_max x y = y := by
  have := z_maxb x y
  omega
theorem e_pageCount {fu : Nat} (hfu : 8589934592 ≤ fu) {s : z_M} (ys : y_YSs s) (h6 : 0 ≤ s 240 6 ∧ s 240 6 ≤ 200) {v : Int} : fX8_pageCount fu s 296 v = some (vI (y_pgc (y_pge (y_Tc s) (s 240 6) v) (s 240 6) 0), s) := by
  have hE : ∀ a : Int, a ≤ y_pge (y_Tc s) (s 240 6) v a := fun a => y_pge_l
  have go : ∀ (m F : Nat) (l n : Int), s 240 6 - l ≤ m → m < F → 0 ≤ l → l ≤ s 240 6 → n + y_pgc (y_pge (y_Tc s) (s 240 6) v) (s 240 6) l = y_pgc (y_pge (y_Tc s) (s 240 6) v) (s 240 6) 0 → 0 ≤ n → z_T (fX8_pageCount_L4 fu 296 v F s n l (fun s9 x10 => some (vI x10, s9))) (fun r s' => r = vI (y_pgc (y_pge (y_Tc s) (s 240 6) v) (s 240 6) 0) ∧ s' = s) := by
    have fin : ∀ l n : Int, s 240 6 ≤ l → n + y_pgc (y_pge (y_Tc s) (s 240 6) v) (s 240 6) l = y_pgc (y_pge (y_Tc s) (s 240 6) v) (s 240 6) 0 → z_T (some (vI n, s)) (fun r s' => r = vI (y_pgc (y_pge (y_Tc s) (s 240 6) v) (s 240 6) 0) ∧ s' = s) := fun l n h e => by
      rw [y_pgc_z h] at e
      exact T_ret ⟨congrArg vI (by omega), rfl⟩
    have cb := (y_pgc_b (N := s 240 6) hE (s 240 6).toNat 0 (by omega)).2 h6.1
    intro m
    induction m with
    | zero =>
      intro F l n h hF h2 h3 e n0
      obtain ⟨F, rfl⟩ : ∃ F2, F = F2 + 1 := ⟨F - 1, by omega⟩
      refine T_of (fX8_pageCount_L4.eq_2 ..) ?_
      refine T_if1 (by decide +kernel) ?_
      refine T_let 258 (by decide +kernel) ?_
      refine T_if1 (by decide +kernel) ?_
      refine T_bI (T_of (fX3_lineCount.eq_1 ..) ?_)
      refine T_if1 (by decide +kernel) ?_
      refine T_let 240 (by decide +kernel) ?_
      refine T_if1 (by decide +kernel) ?_
      refine T_let (s 240 6) rfl ?_
      refine T_rI ?_
      refine T_if1 (by omega) ?_
      exact fin l n (by omega) e
    | succ m ih =>
      intro F l n h hF h2 h3 e n0
      obtain ⟨F, rfl⟩ : ∃ F2, F = F2 + 1 := ⟨F - 1, by omega⟩
      refine T_of (fX8_pageCount_L4.eq_2 ..) ?_
      refine T_if1 (by decide +kernel) ?_
      refine T_let 258 (by decide +kernel) ?_
      refine T_if1 (by decide +kernel) ?_
      refine T_bI (T_of (fX3_lineCount.eq_1 ..) ?_)
      refine T_if1 (by decide +kernel) ?_
      refine T_let 240 (by decide +kernel) ?_
      refine T_if1 (by decide +kernel) ?_
      refine T_let (s 240 6) rfl ?_
      refine T_rI ?_
      refine T_ite (fun hN => ?_) (fun hN => ?_)
      · exact fin l n (by omega) e
      · have hl := hE l
        have pe := (y_pge_p (T := y_Tc s) (N := s 240 6) (w := v) (a := l) (by omega)).1
        have sc := y_pgc_s hE (N := s 240 6) (a := l) (by omega)
        have nb := (y_pgc_b (N := s 240 6) hE (s 240 6 - (y_pge (y_Tc s) (s 240 6) v l + 1)).toNat (y_pge (y_Tc s) (s 240 6) v l + 1) (by omega)).1
        refine T_if1 (by decide +kernel) ?_
        refine T_bI (T_of (e_pageEnd hfu ys h6.2 h2 (by omega)) (T_rI ?_))
        refine T_let (y_pge (y_Tc s) (s 240 6) v l) (z_max_r hl) ?_
        refine T_let ((y_pge (y_Tc s) (s 240 6) v l) + 1) (v_wid (by omega)) ?_
        refine T_let (n + 1) (v_wid (by omega)) ?_
        exact ih F _ _ (by omega) (by omega) (by omega) (by omega) (by omega) (by omega)
  refine T_eq ?_
  refine T_of (fX8_pageCount.eq_1 ..) ?_
  exact go (s 240 6).toNat fu 0 0 (by omega) (by omega) (Int.le_refl _) h6.1 (by omega) (Int.le_refl _)
/-! the six calls -/
theorem y_YSs.k {sr s' : z_M} (h : y_SDd sr s') : s' 240 6 = sr 240 6 := h.2.2.2.1 240 6 (by decide) (by omega)
/-- an answer told by a relation; the sides are fresh then -/
def y_QRZ (s : z_M) (v : z_V) (ok0 : z_M → Prop) (ok1 : Prop) (R : z_M → Int → Prop) : Prop := ∃ sr, y_RY s sr ∧ ((¬ ok0 sr ∧ v = vX 0) ∨ (ok0 sr ∧ ¬ ok1 ∧ v = vX 1) ∨ (ok0 sr ∧ ok1 ∧ ∃ x, v = vI x ∧ R sr x))
def y_ARZ (s s' : z_M) (ok0 : z_M → Prop) (ok1 : Prop) (y : Int) (S : z_M → Int → Prop) : Prop := ∃ sl, y_RM s sl ∧ ((¬ ok0 sl ∧ s' 309 0 = 1) ∨ (ok0 sl ∧ ¬ ok1 ∧ s' 309 0 = 2) ∨ (ok0 sl ∧ ok1 ∧ s' 309 0 = 0 ∧ S sl y))
theorem y_JRZ {s s1 s2 : z_M} {v0 : z_V} {ok pk : z_M → Prop} {p1 : Prop} {R S : z_M → Int → Prop} {x y : Int} (q : y_QRZ s v0 ok p1 R) (vx : y_VX 1 2 s1 v0 x) (a : y_ARZ s1 s2 pk p1 y S) (o : s2 7658 0 = s1 7658 0) (h0 : ∀ sr sl, y_RY s sr → y_RM s1 sl → (ok sr ↔ pk sl)) (e : ∀ sr sl z, pk sl → p1 → y_RY s sr → y_RM s1 sl → R sr z → S sl y → z = y) : s2 309 0 = x ∧ (x = 0 → s2 7658 0 = y) := by
  obtain ⟨sr, ry, q⟩ := q
  obtain ⟨sl, rl, a⟩ := a
  rw [h0 sr sl ry rl] at q
  refine y_J0 (e1 := 0) (s := s) (ok0 := fun _ => pk sl) (ok1 := fun _ => p1) (F := fun _ => y) (p0 := pk sl) (p1 := p1) (z := y) ⟨sr, ry.1, ?_⟩ vx ?_ o (fun _ _ => Iff.rfl) (fun _ _ => Iff.rfl) (fun _ _ _ _ => rfl)
  · rcases q with q | q | ⟨k, k1, z, rfl, r⟩
    · exact Or.inl q
    · exact Or.inr (Or.inl q)
    · refine Or.inr (Or.inr ⟨k, k1, ?_⟩)
      rcases a with ⟨n, _⟩ | ⟨_, n, _⟩ | ⟨_, _, _, sy⟩
      · exact absurd k n
      · exact absurd k1 n
      · rw [e sr sl z k k1 ry rl r sy]
  · rcases a with a | a | ⟨k, k1, a0, _⟩
    · exact Or.inl a
    · exact Or.inr (Or.inl a)
    · exact Or.inr (Or.inr ⟨k, k1, a0, rfl⟩)
theorem e_cgutter {fu : Nat} (hfu : 8589934592 ≤ fu) {s : z_M} (c : z_CI s) (h : y_V3 s) (hy : y_Y4 s) (hz : y_Y5 s) (zp : y_Zp s) (cc : s 296 9 ≤ 900000000) (b8 : 0 ≤ s 3 8 ∧ s 3 8 ≤ 12) (hk : ∀ sr, y_RF s sr → y_OKc sr) {p : Int} : z_T (fX11_gutter fu s 1 p) (fun v s' => y_K5 s s' ∧ y_QRY s v (fun sr => 0 ≤ p ∧ p < sr 240 6) (fun sr x => ∃ ss, y_SDd sr ss ∧ x = if p = sr 240 6 - 1 then -1 else ss 302 p)) := by
  refine T_of (fX11_gutter.eq_1 ..) ?_
  refine T_if1 v_ob1 ?_
  refine T_useN (e_freshZ hfu c h hy hz) (fun v sr hq => ?_)
  obtain ⟨rfl, ry, q5, fr⟩ := hq
  refine T_vN ?_
  have rf := ry.1
  have ok := hk sr rf
  have lc := ry.2.2.2 ok
  have h6 := CI_b rf.1 (k := 240) (j := 6) bd_240_6
  have zr : y_Zp sr := zp.fr (fun a b p => fr a b (by omega))
  have cr : sr 296 9 ≤ 1000000000 := by rw [fr 296 9 (by decide)]; omega
  have br : 0 ≤ sr 3 8 ∧ sr 3 8 ≤ 12 := by rw [rf.2.2.1 3 8 (by decide) (by decide)]; exact b8
  refine T_if1 v_ob1 ?_
  refine T_let 240 (by decide +kernel) ?_
  refine T_if1 (by decide +kernel) ?_
  refine T_let (sr 240 6) rfl ?_
  refine T_if1 v_ob1 ?_
  refine T_nen (fun n => T_ret ⟨y_K5.r q5 zp fr (fun a b p => z_up_k2 (by omega)), sr, ry, Or.inl ⟨n, rfl⟩⟩) (fun h0 h1 => ?_)
  refine T_if1 v_ob1 ?_
  refine T_useN (e_refS hfu rf.1 ok lc q5 zr cr br) (fun v ss hq => ?_)
  obtain ⟨rfl, sd⟩ := hq
  refine T_vN ?_
  have k5 := sd.k5 fr
  have ys := sd.2.2.1
  have e6 := y_YSs.k sd
  have h6s : 0 ≤ ss 240 6 ∧ ss 240 6 ≤ 200 := by rw [e6]; exact h6
  refine T_if1 v_ob1 ?_
  refine T_let 240 (by decide +kernel) ?_
  refine T_if1 (by decide +kernel) ?_
  refine T_let (sr 240 6) e6 ?_
  refine T_let ((sr 240 6) - 1) (v_wid (by omega)) ?_
  refine T_ite (fun hE => ?_) (fun hE => ?_)
  · refine T_if1 v_ob1 ?_
    refine T_let 296 (by decide +kernel) ?_
    refine T_if1 (by decide +kernel) ?_
    refine T_let 301 (by decide +kernel) ?_
    refine T_if1 (by decide +kernel) ?_
    refine T_getV w_r301 (by omega) rfl ?_
    refine T_of (fX11_gutter_J48.eq_1 ..) ?_
    refine T_ret ⟨k5, sr, ry, Or.inr ⟨⟨h0, h1⟩, _, rfl, ss, sd, ?_⟩⟩
    rw [if_neg hE]
  · refine T_of (fX11_gutter_J48.eq_1 ..) ?_
    refine T_ret ⟨k5, sr, ry, Or.inr ⟨⟨h0, h1⟩, _, rfl, ss, sd, ?_⟩⟩
    rw [if_pos (by omega)]
theorem e_cclash {fu : Nat} (hfu : 8589934592 ≤ fu) {s : z_M} (c : z_CI s) (h : y_V3 s) (hy : y_Y4 s) (hz : y_Y5 s) (zp : y_Zp s) (cc : s 296 9 ≤ 900000000) (b8 : 0 ≤ s 3 8 ∧ s 3 8 ≤ 12) (hk : ∀ sr, y_RF s sr → y_OKc sr) {p : Int} : z_T (fX11_clash fu s 1 p) (fun v s' => y_K5 s s' ∧ y_QRY s v (fun sr => 0 ≤ p ∧ p < sr 240 6) (fun sr x => ∃ ss, y_SDd sr ss ∧ x = ss 300 p)) := by
  refine T_of (fX11_clash.eq_1 ..) ?_
  refine T_if1 v_ob1 ?_
  refine T_useN (e_freshZ hfu c h hy hz) (fun v sr hq => ?_)
  obtain ⟨rfl, ry, q5, fr⟩ := hq
  refine T_vN ?_
  have rf := ry.1
  have ok := hk sr rf
  have lc := ry.2.2.2 ok
  have h6 := CI_b rf.1 (k := 240) (j := 6) bd_240_6
  have zr : y_Zp sr := zp.fr (fun a b p => fr a b (by omega))
  have cr : sr 296 9 ≤ 1000000000 := by rw [fr 296 9 (by decide)]; omega
  have br : 0 ≤ sr 3 8 ∧ sr 3 8 ≤ 12 := by rw [rf.2.2.1 3 8 (by decide) (by decide)]; exact b8
  refine T_if1 v_ob1 ?_
  refine T_let 240 (by decide +kernel) ?_
  refine T_if1 (by decide +kernel) ?_
  refine T_let (sr 240 6) rfl ?_
  refine T_if1 v_ob1 ?_
  refine T_nen (fun n => T_ret ⟨y_K5.r q5 zp fr (fun a b p => z_up_k2 (by omega)), sr, ry, Or.inl ⟨n, rfl⟩⟩) (fun h0 h1 => ?_)
  refine T_if1 v_ob1 ?_
  refine T_useN (e_refS hfu rf.1 ok lc q5 zr cr br) (fun v ss hq => ?_)
  obtain ⟨rfl, sd⟩ := hq
  refine T_vN ?_
  have k5 := sd.k5 fr
  have ys := sd.2.2.1
  have e6 := y_YSs.k sd
  have h6s : 0 ≤ ss 240 6 ∧ ss 240 6 ≤ 200 := by rw [e6]; exact h6
  refine T_if1 v_ob1 ?_
  refine T_let 296 (by decide +kernel) ?_
  refine T_if1 (by decide +kernel) ?_
  refine T_let 299 (by decide +kernel) ?_
  refine T_if1 (by decide +kernel) ?_
  refine T_getV w_r299 (by omega) rfl ?_
  refine T_ret ⟨k5, sr, ry, Or.inr ⟨⟨h0, h1⟩, _, rfl, ss, sd, ?_⟩⟩
  rfl
theorem e_cthick {fu : Nat} (hfu : 8589934592 ≤ fu) {s : z_M} (c : z_CI s) (h : y_V3 s) (hy : y_Y4 s) (hz : y_Y5 s) (zp : y_Zp s) (cc : s 296 9 ≤ 900000000) (b8 : 0 ≤ s 3 8 ∧ s 3 8 ≤ 12) (hk : ∀ sr, y_RF s sr → y_OKc sr) {p q : Int} : z_T (fX11_thick fu s 1 p q) (fun v s' => y_K5 s s' ∧ y_QRZ s v (fun sr => (0 ≤ p ∧ p < sr 240 6) ∧ 0 ≤ q ∧ q < sr 240 6) (p ≤ q) (fun sr x => ∃ ss, y_SDd sr ss ∧ x = y_Tc ss p q)) := by
  refine T_of (fX11_thick.eq_1 ..) ?_
  refine T_if1 v_ob1 ?_
  refine T_useN (e_freshZ hfu c h hy hz) (fun v sr hq => ?_)
  obtain ⟨rfl, ry, q5, fr⟩ := hq
  refine T_vN ?_
  have rf := ry.1
  have ok := hk sr rf
  have lc := ry.2.2.2 ok
  have h6 := CI_b rf.1 (k := 240) (j := 6) bd_240_6
  have zr : y_Zp sr := zp.fr (fun a b p => fr a b (by omega))
  have cr : sr 296 9 ≤ 1000000000 := by rw [fr 296 9 (by decide)]; omega
  have br : 0 ≤ sr 3 8 ∧ sr 3 8 ≤ 12 := by rw [rf.2.2.1 3 8 (by decide) (by decide)]; exact b8
  refine T_if1 v_ob1 ?_
  refine T_let 240 (by decide +kernel) ?_
  refine T_if1 (by decide +kernel) ?_
  refine T_let (sr 240 6) rfl ?_
  refine T_if1 v_ob1 ?_
  refine T_nen (fun n => T_ret ⟨y_K5.r q5 zp fr (fun a b p => z_up_k2 (by omega)), sr, ry, Or.inl ⟨fun k => n k.1, rfl⟩⟩) (fun h0 h1 => ?_)
  refine T_if1 v_ob1 ?_
  refine T_let 240 (by decide +kernel) ?_
  refine T_if1 (by decide +kernel) ?_
  refine T_let (sr 240 6) rfl ?_
  refine T_if1 v_ob1 ?_
  refine T_nen (fun n => T_ret ⟨y_K5.r q5 zp fr (fun a b p => z_up_k2 (by omega)), sr, ry, Or.inl ⟨fun k => n k.2, rfl⟩⟩) (fun k0 k1 => ?_)
  refine T_if1 v_ob1 ?_
  refine T_let 240 (by decide +kernel) ?_
  refine T_if1 (by decide +kernel) ?_
  refine T_let (sr 240 6) rfl ?_
  refine T_if1 v_ob1 ?_
  refine T_nwn (fun n => T_ret ⟨y_K5.r q5 zp fr (fun a b p => z_up_k2 (by omega)), sr, ry, Or.inr (Or.inl ⟨⟨⟨h0, h1⟩, k0, k1⟩, fun k => n ⟨k, by omega⟩, rfl⟩)⟩) (fun z0 z1 => ?_)
  refine T_if1 v_ob1 ?_
  refine T_useN (e_refS hfu rf.1 ok lc q5 zr cr br) (fun v ss hq => ?_)
  obtain ⟨rfl, sd⟩ := hq
  refine T_vN ?_
  have k5 := sd.k5 fr
  have ys := sd.2.2.1
  have e6 := y_YSs.k sd
  have h6s : 0 ≤ ss 240 6 ∧ ss 240 6 ≤ 200 := by rw [e6]; exact h6
  refine T_if1 v_ob1 ?_
  refine T_let 296 (by decide +kernel) ?_
  refine T_if1 (by decide +kernel) ?_
  refine T_bI (T_of (e_thickOf ys h6s.2 h0 z0 (by omega)) (T_rI ?_))
  exact T_ret ⟨k5, sr, ry, Or.inr (Or.inr ⟨⟨⟨h0, h1⟩, k0, k1⟩, z0, _, rfl, ss, sd, rfl⟩)⟩
theorem e_cpages {fu : Nat} (hfu : 8589934592 ≤ fu) {s : z_M} (c : z_CI s) (h : y_V3 s) (hy : y_Y4 s) (hz : y_Y5 s) (zp : y_Zp s) (cc : s 296 9 ≤ 900000000) (b8 : 0 ≤ s 3 8 ∧ s 3 8 ≤ 12) (hk : ∀ sr, y_RF s sr → y_OKc sr) {p : Int} : z_T (fX11_pages fu s 1 p) (fun v s' => y_K5 s s' ∧ y_QRL s v (12 ≤ p ∧ p ≤ 9999) (fun sr x => ∃ ss, y_SDd sr ss ∧ x = y_pgc (y_pge (y_Tc ss) (ss 240 6) p) (ss 240 6) 0)) := by
  refine T_of (fX11_pages.eq_1 ..) ?_
  refine T_if1 v_ob1 ?_
  refine T_nwn (fun n => T_ret ⟨y_K5.i hz zp (fun a b p => z_up_k2 (by omega)), Or.inl ⟨n, rfl⟩⟩) (fun h0 h1 => ?_)
  refine T_if1 v_ob1 ?_
  refine T_useN (e_freshZ hfu c h hy hz) (fun v sr hq => ?_)
  obtain ⟨rfl, ry, q5, fr⟩ := hq
  refine T_vN ?_
  have rf := ry.1
  have ok := hk sr rf
  have lc := ry.2.2.2 ok
  have h6 := CI_b rf.1 (k := 240) (j := 6) bd_240_6
  have zr : y_Zp sr := zp.fr (fun a b p => fr a b (by omega))
  have cr : sr 296 9 ≤ 1000000000 := by rw [fr 296 9 (by decide)]; omega
  have br : 0 ≤ sr 3 8 ∧ sr 3 8 ≤ 12 := by rw [rf.2.2.1 3 8 (by decide) (by decide)]; exact b8
  refine T_if1 v_ob1 ?_
  refine T_useN (e_refS hfu rf.1 ok lc q5 zr cr br) (fun v ss hq => ?_)
  obtain ⟨rfl, sd⟩ := hq
  refine T_vN ?_
  have k5 := sd.k5 fr
  have ys := sd.2.2.1
  have e6 := y_YSs.k sd
  have h6s : 0 ≤ ss 240 6 ∧ ss 240 6 ≤ 200 := by rw [e6]; exact h6
  refine T_if1 v_ob1 ?_
  refine T_let 296 (by decide +kernel) ?_
  refine T_if1 (by decide +kernel) ?_
  refine T_bI (T_of (e_pageCount hfu ys h6s) (T_rI ?_))
  exact T_ret ⟨k5, Or.inr ⟨⟨h0, h1⟩, sr, _, ry, rfl, ss, sd, rfl⟩⟩
/-- of page k -/
def y_PGv (T : Int → Int → Int) (N v k q x : Int) : Prop := (¬ (0 ≤ k ∧ k < y_pgc (y_pge T N v) N 0) ∧ x = -1) ∨ ∃ j : Nat, (j : Int) = k ∧ k < y_pgc (y_pge T N v) N 0 ∧ x = if q = 0 then y_ps (y_pge T N v) j else if q = 1 then y_pge T N v (y_ps (y_pge T N v) j) - y_ps (y_pge T N v) j + 1 else T (y_ps (y_pge T N v) j) (y_pge T N v (y_ps (y_pge T N v) j))
theorem e_cpgL {fu : Nat} (hfu : 8589934592 ≤ fu) {s : z_M} (ys : y_YSs s) (h6 : 0 ≤ s 240 6 ∧ s 240 6 ≤ 200) {v k q : Int} {kont : z_M → Int → z_O} {P : z_V → z_M → Prop} (kk : ∀ (j : Nat), ((j : Int) = k ∨ ((j : Int) ≤ k ∧ s 240 6 ≤ y_ps (y_pge (y_Tc s) (s 240 6) v) j)) → z_T (kont s (y_ps (y_pge (y_Tc s) (s 240 6) v) j)) P) : ∀ (m F : Nat) (j : Nat), s 240 6 - y_ps (y_pge (y_Tc s) (s 240 6) v) j ≤ m → m < F → (j : Int) ≤ k → k ≤ 2147483647 → z_T (fX11_page_L45 fu 1 v k q F s (y_ps (y_pge (y_Tc s) (s 240 6) v) j) (j : Int) kont) P := by
  have hE : ∀ a : Int, a ≤ y_pge (y_Tc s) (s 240 6) v a := fun a => y_pge_l
  intro m
  induction m with
  | zero =>
    intro F j h hF h2 h3
    obtain ⟨F, rfl⟩ : ∃ F2, F = F2 + 1 := ⟨F - 1, by omega⟩
    refine T_of (fX11_page_L45.eq_2 ..) ?_
    refine T_ite (fun hK => ?_) (fun hK => ?_)
    · exact kk j (Or.inl (by omega))
    · refine T_if1 v_ob1 ?_
      refine T_let 240 (by decide +kernel) ?_
      refine T_if1 (by decide +kernel) ?_
      refine T_let (s 240 6) rfl ?_
      refine T_if1 (by omega) ?_
      exact kk j (Or.inr ⟨h2, by omega⟩)
  | succ m ih =>
    intro F j h hF h2 h3
    obtain ⟨F, rfl⟩ : ∃ F2, F = F2 + 1 := ⟨F - 1, by omega⟩
    have jl := y_ps_l hE j
    refine T_of (fX11_page_L45.eq_2 ..) ?_
    refine T_ite (fun hK => ?_) (fun hK => ?_)
    · exact kk j (Or.inl (by omega))
    · refine T_if1 v_ob1 ?_
      refine T_let 240 (by decide +kernel) ?_
      refine T_if1 (by decide +kernel) ?_
      refine T_let (s 240 6) rfl ?_
      refine T_ite (fun hN => ?_) (fun hN => ?_)
      · exact kk j (Or.inr ⟨h2, hN⟩)
      · have hl := hE (y_ps (y_pge (y_Tc s) (s 240 6) v) j)
        have pe := (y_pge_p (T := y_Tc s) (N := s 240 6) (w := v) (a := (y_ps (y_pge (y_Tc s) (s 240 6) v) j)) (by omega)).1
        have es : y_ps (y_pge (y_Tc s) (s 240 6) v) (j + 1) = y_pge (y_Tc s) (s 240 6) v (y_ps (y_pge (y_Tc s) (s 240 6) v) j) + 1 := y_ps_s
        refine T_if1 v_ob1 ?_
        refine T_let 296 (by decide +kernel) ?_
        refine T_if1 (by decide +kernel) ?_
        refine T_bI (T_of (e_pageEnd hfu ys h6.2 (by omega) (by omega)) (T_rI ?_))
        refine T_let ((y_pge (y_Tc s) (s 240 6) v (y_ps (y_pge (y_Tc s) (s 240 6) v) j)) + 1) (v_wid (by omega)) ?_
        refine T_let ((j : Int) + 1) (v_wid (by omega)) ?_
        have i := ih F (j + 1) (by omega) (by omega) (by omega) h3
        rw [es, show (((j + 1 : Nat)) : Int) = (j : Int) + 1 by omega] at i
        exact i
theorem e_cpg83 {fu : Nat} (hfu : 8589934592 ≤ fu) {s : z_M} (ys : y_YSs s) (h6 : 0 ≤ s 240 6 ∧ s 240 6 ≤ 200) {v q f : Int} (h0 : 0 ≤ f) (hq : 0 ≤ q ∧ q ≤ 2) {P : z_V → z_M → Prop} (k0 : s 240 6 ≤ f → P (vI (-1)) s) (k1 : f < s 240 6 → P (vI (if q = 0 then f else if q = 1 then y_pge (y_Tc s) (s 240 6) v f - f + 1 else y_Tc s f (y_pge (y_Tc s) (s 240 6) v f))) s) : z_T (fX11_page_J83 fu s 1 v q f) P := by
  refine T_of (fX11_page_J83.eq_1 ..) ?_
  refine T_if1 v_ob1 ?_
  refine T_let 240 (by decide +kernel) ?_
  refine T_if1 (by decide +kernel) ?_
  refine T_let (s 240 6) rfl ?_
  refine T_ite (fun hN => ?_) (fun hN => ?_)
  · have hl := y_pge_l (T := y_Tc s) (N := s 240 6) (w := v) (a := f)
    have pe := (y_pge_p (T := y_Tc s) (N := s 240 6) (w := v) (a := f) hN).1
    have kf := k1 hN
    refine T_if1 v_ob1 ?_
    refine T_let 296 (by decide +kernel) ?_
    refine T_if1 (by decide +kernel) ?_
    refine T_bI (T_of (e_pageEnd hfu ys h6.2 h0 hN) (T_rI ?_))
    refine T_ite (fun hQ1 => ?_) (fun hQ1 => ?_)
    · refine T_ite (fun hQ2 => ?_) (fun hQ2 => ?_)
      · refine T_if1 v_ob1 ?_
        refine T_let 296 (by decide +kernel) ?_
        refine T_if1 (by decide +kernel) ?_
        refine T_bI (T_of (e_thickOf ys h6.2 h0 hl pe) (T_rI ?_))
        refine T_of (fX11_page_J144.eq_1 ..) ?_
        rw [if_neg (by omega), if_neg (by omega)] at kf
        exact T_ret kf
      · refine T_let ((y_pge (y_Tc s) (s 240 6) v f) - f) (v_wid (by omega)) ?_
        refine T_let (((y_pge (y_Tc s) (s 240 6) v f) - f) + 1) (v_wid (by omega)) ?_
        refine T_of (fX11_page_J144.eq_1 ..) ?_
        rw [if_neg (by omega), if_pos (by omega)] at kf
        exact T_ret kf
    · refine T_of (fX11_page_J144.eq_1 ..) ?_
      rw [if_pos (by omega)] at kf
      exact T_ret kf
  · exact T_ret (k0 (by omega))
theorem e_cpage {fu : Nat} (hfu : 8589934592 ≤ fu) {s : z_M} (c : z_CI s) (h : y_V3 s) (hy : y_Y4 s) (hz : y_Y5 s) (zp : y_Zp s) (cc : s 296 9 ≤ 900000000) (b8 : 0 ≤ s 3 8 ∧ s 3 8 ≤ 12) (hk : ∀ sr, y_RF s sr → y_OKc sr) {p k q : Int} (hk2 : k ≤ 2147483647) : z_T (fX11_page fu s 1 p k q) (fun v s' => y_K5 s s' ∧ y_QRL s v ((12 ≤ p ∧ p ≤ 9999) ∧ 0 ≤ q ∧ q ≤ 2) (fun sr x => ∃ ss, y_SDd sr ss ∧ y_PGv (y_Tc ss) (ss 240 6) p k q x)) := by
  refine T_of (fX11_page.eq_1 ..) ?_
  refine T_if1 v_ob1 ?_
  refine T_nwn (fun n => T_ret ⟨y_K5.i hz zp (fun a b p => z_up_k2 (by omega)), Or.inl ⟨fun k => n k.1, rfl⟩⟩) (fun h0 h1 => ?_)
  refine T_if1 v_ob1 ?_
  refine T_nwn (fun n => T_ret ⟨y_K5.i hz zp (fun a b p => z_up_k2 (by omega)), Or.inl ⟨fun k => n k.2, rfl⟩⟩) (fun q0 q1 => ?_)
  refine T_if1 v_ob1 ?_
  refine T_useN (e_freshZ hfu c h hy hz) (fun v sr hq => ?_)
  obtain ⟨rfl, ry, q5, fr⟩ := hq
  refine T_vN ?_
  have rf := ry.1
  have ok := hk sr rf
  have lc := ry.2.2.2 ok
  have h6 := CI_b rf.1 (k := 240) (j := 6) bd_240_6
  have zr : y_Zp sr := zp.fr (fun a b p => fr a b (by omega))
  have cr : sr 296 9 ≤ 1000000000 := by rw [fr 296 9 (by decide)]; omega
  have br : 0 ≤ sr 3 8 ∧ sr 3 8 ≤ 12 := by rw [rf.2.2.1 3 8 (by decide) (by decide)]; exact b8
  refine T_if1 v_ob1 ?_
  refine T_useN (e_refS hfu rf.1 ok lc q5 zr cr br) (fun v ss hq => ?_)
  obtain ⟨rfl, sd⟩ := hq
  refine T_vN ?_
  have k5 := sd.k5 fr
  have ys := sd.2.2.1
  have e6 := y_YSs.k sd
  have h6s : 0 ≤ ss 240 6 ∧ ss 240 6 ≤ 200 := by rw [e6]; exact h6
  have hE : ∀ a : Int, a ≤ y_pge (y_Tc ss) (ss 240 6) p a := fun a => y_pge_l
  obtain ⟨fu2, hfu2⟩ : ∃ f2, fu = f2 + 1 := ⟨fu - 1, by omega⟩
  refine T_ite (fun hK => ?_) (fun hK => ?_)
  · refine T_of (fX11_page_J40.eq_1 ..) ?_
    have lt := fun j : Nat => y_ps_lt (E := y_pge (y_Tc ss) (ss 240 6) p) (N := ss 240 6) hE j
    refine e_cpgL hfu ys h6s (fun j hj => ?_) (ss 240 6).toNat fu 0 (by rw [y_ps_0]; omega) (by omega) (by omega) hk2
    have jl := y_ps_l hE j
    have ltj := lt j
    refine e_cpg83 hfu ys h6s (by omega) ⟨q0, q1⟩ (fun n => ⟨k5, Or.inr ⟨⟨⟨h0, h1⟩, q0, q1⟩, sr, _, ry, rfl, ss, sd, Or.inl ⟨?_, rfl⟩⟩⟩) (fun n => ⟨k5, Or.inr ⟨⟨⟨h0, h1⟩, q0, q1⟩, sr, _, ry, rfl, ss, sd, Or.inr ⟨j, ?_, ?_, rfl⟩⟩⟩)
    · intro r
      rcases hj with hj | hj
      · exact absurd (ltj.mpr (by omega)) (by omega)
      · by_cases z : (j : Int) < y_pgc (y_pge (y_Tc ss) (ss 240 6) p) (ss 240 6) 0
        · exact absurd (ltj.mpr z) (by omega)
        · omega
    · rcases hj with hj | hj
      · exact hj
      · omega
    · rcases hj with hj | hj
      · rw [← hj]; exact ltj.mp n
      · omega
  · refine T_if1 v_ob1 ?_
    refine T_let 240 (by decide +kernel) ?_
    refine T_if1 (by decide +kernel) ?_
    refine T_let (ss 240 6) rfl ?_
    refine T_of (fX11_page_J40.eq_1 ..) ?_
    subst hfu2
    refine T_of (fX11_page_L45.eq_2 ..) ?_
    refine T_if1 (by omega) ?_
    refine e_cpg83 hfu ys h6s (by omega) ⟨q0, q1⟩ (fun n => ⟨k5, Or.inr ⟨⟨⟨h0, h1⟩, q0, q1⟩, sr, _, ry, rfl, ss, sd, Or.inl ⟨by omega, rfl⟩⟩⟩) (fun n => by omega)
theorem e_cnrL {fu : Nat} (hfu : 8589934592 ≤ fu) {s : z_M} (ys : y_YSs s) (h6 : 0 ≤ s 240 6 ∧ s 240 6 ≤ 200) {p : Int} (mo : ∀ v v' : Int, v ≤ v' → y_pgc (y_pge (y_Tc s) (s 240 6) v') (s 240 6) 0 ≤ y_pgc (y_pge (y_Tc s) (s 240 6) v) (s 240 6) 0) {kont : z_M → Int → z_O} {P : z_V → z_M → Prop} (kk : ∀ x : Int, 12 ≤ x → x ≤ 10000 → (∀ v : Int, 12 ≤ v → v < x → p < y_pgc (y_pge (y_Tc s) (s 240 6) v) (s 240 6) 0) → (x ≤ 9999 → y_pgc (y_pge (y_Tc s) (s 240 6) x) (s 240 6) 0 ≤ p) → z_T (kont s x) P) : ∀ (m F : Nat) (a b : Int), b - a ≤ m → m < F → 12 ≤ a → a ≤ b → b ≤ 10000 → (∀ v : Int, 12 ≤ v → v < a → p < y_pgc (y_pge (y_Tc s) (s 240 6) v) (s 240 6) 0) → (b ≤ 9999 → y_pgc (y_pge (y_Tc s) (s 240 6) b) (s 240 6) 0 ≤ p) → z_T (fX11_narrow_L24 fu 1 p F s a b kont) P := by
  intro m
  induction m with
  | zero =>
    intro F a b h hF h2 h3 h4 g1 g2
    obtain ⟨F, rfl⟩ : ∃ F2, F = F2 + 1 := ⟨F - 1, by omega⟩
    have e : a = b := by omega
    subst e
    refine T_of (fX11_narrow_L24.eq_2 ..) ?_
    refine T_if1 (by omega) ?_
    exact kk a h2 h4 g1 g2
  | succ m ih =>
    intro F a b h hF h2 h3 h4 g1 g2
    obtain ⟨F, rfl⟩ : ∃ F2, F = F2 + 1 := ⟨F - 1, by omega⟩
    have td : Int.tdiv (a + b) 2 = (a + b) / 2 := v_td2 (by omega)
    refine T_of (fX11_narrow_L24.eq_2 ..) ?_
    refine T_ite (fun hL => ?_) (fun hL => ?_)
    · have e : a = b := by omega
      subst e
      exact kk a h2 h4 g1 g2
    · refine T_let (a + b) (v_wid (by omega)) ?_
      refine T_if1 (by omega) ?_
      refine T_let ((a + b) / 2) ((congrArg z_w td).trans (v_wid (by omega))) ?_
      refine T_if1 v_ob1 ?_
      refine T_let 296 (by decide +kernel) ?_
      refine T_if1 (by decide +kernel) ?_
      refine T_bI (T_of (e_pageCount hfu ys h6) (T_rI ?_))
      refine T_ite (fun hC => ?_) (fun hC => ?_)
      · refine T_let (((a + b) / 2) + 1) (v_wid (by omega)) ?_
        refine T_of (fX11_narrow_J60.eq_1 ..) ?_
        refine ih F ((a + b) / 2 + 1) b (by omega) (by omega) (by omega) (by omega) h4 (fun v p1 q1 => ?_) g2
        have := mo v ((a + b) / 2) (by omega)
        omega
      · refine T_of (fX11_narrow_J60.eq_1 ..) ?_
        exact ih F a ((a + b) / 2) (by omega) (by omega) h2 (by omega) (by omega) g1 (fun _ => by omega)
theorem e_cnarrow {fu : Nat} (hfu : 8589934592 ≤ fu) {s : z_M} (c : z_CI s) (h : y_V3 s) (hy : y_Y4 s) (hz : y_Y5 s) (zp : y_Zp s) (cc : s 296 9 ≤ 900000000) (b8 : 0 ≤ s 3 8 ∧ s 3 8 ≤ 12) (hk : ∀ sr, y_RF s sr → y_OKc sr) {p : Int} : z_T (fX11_narrow fu s 1 p) (fun v s' => y_K5 s s' ∧ y_QRL s v (1 ≤ p ∧ p ≤ 200) (fun sr x => ∃ ss, y_SDd sr ss ∧ y_nrw (fun v => y_pgc (y_pge (y_Tc ss) (ss 240 6) v) (ss 240 6) 0) p x)) := by
  refine T_of (fX11_narrow.eq_1 ..) ?_
  refine T_if1 v_ob1 ?_
  refine T_nwn (fun n => T_ret ⟨y_K5.i hz zp (fun a b p => z_up_k2 (by omega)), Or.inl ⟨n, rfl⟩⟩) (fun h0 h1 => ?_)
  refine T_if1 v_ob1 ?_
  refine T_useN (e_freshZ hfu c h hy hz) (fun v sr hq => ?_)
  obtain ⟨rfl, ry, q5, fr⟩ := hq
  refine T_vN ?_
  have rf := ry.1
  have ok := hk sr rf
  have lc := ry.2.2.2 ok
  have h6 := CI_b rf.1 (k := 240) (j := 6) bd_240_6
  have zr : y_Zp sr := zp.fr (fun a b p => fr a b (by omega))
  have cr : sr 296 9 ≤ 1000000000 := by rw [fr 296 9 (by decide)]; omega
  have br : 0 ≤ sr 3 8 ∧ sr 3 8 ≤ 12 := by rw [rf.2.2.1 3 8 (by decide) (by decide)]; exact b8
  refine T_if1 v_ob1 ?_
  refine T_useN (e_refS hfu rf.1 ok lc q5 zr cr br) (fun v ss hq => ?_)
  obtain ⟨rfl, sd⟩ := hq
  refine T_vN ?_
  have k5 := sd.k5 fr
  have ys := sd.2.2.1
  have e6 := y_YSs.k sd
  have h6s : 0 ≤ ss 240 6 ∧ ss 240 6 ≤ 200 := by rw [e6]; exact h6
  have b8s : 0 ≤ ss 3 8 := by rw [sd.2.2.2.1 3 8 (by decide) (by omega)]; exact br.1
  have mo : ∀ v v' : Int, v ≤ v' → y_pgc (y_pge (y_Tc ss) (ss 240 6) v') (ss 240 6) 0 ≤ y_pgc (y_pge (y_Tc ss) (ss 240 6) v) (ss 240 6) 0 := fun v v' q => y_pgc_w (fun a a' j p0 p1 p2 p3 => y_THi_m (N := ss 240 6) (fun i a b => ys.g b8s a b) (fun i a b => (ys.o a b).1) (a' - a).toNat a a' j (by omega) p0 p2 p3) q (ss 240 6).toNat 0 0 (by omega) (Int.le_refl _) (Int.le_refl _)
  refine e_cnrL hfu ys h6s mo (fun x x0 x1 g1 g2 => ?_) 10000 fu 12 10000 (by decide) (by omega) (by decide) (by decide) (by decide) (fun v a b => by omega) (fun q => absurd q (by decide))
  refine T_ite (fun hx => ?_) (fun hx => ?_)
  · refine T_of (fX11_narrow_J75.eq_1 ..) ?_
    exact T_ret ⟨k5, Or.inr ⟨⟨h0, h1⟩, sr, _, ry, rfl, ss, sd, Or.inr ⟨x0, hx, g2 hx, g1⟩⟩⟩
  · refine T_of (fX11_narrow_J75.eq_1 ..) ?_
    exact T_ret ⟨k5, Or.inr ⟨⟨h0, h1⟩, sr, _, ry, rfl, ss, sd, Or.inl ⟨rfl, fun v a b => g1 v a (by omega)⟩⟩⟩
