/-! VALUES that rest on the layout: unit, sign, line, block -/
theorem w_r7 : z_rw 7 ∧ z_gr 7 0 = 8 ∧ z_ln 7 = 200 := by decide +kernel
theorem w_r214 : z_rw 214 ∧ z_gr 214 0 = 215 ∧ z_ln 214 = 200 := by decide +kernel
theorem w_r218 : z_rw 218 ∧ z_gr 218 0 = 219 ∧ z_ln 218 = 200 := by decide +kernel
theorem w_r284 : z_rw 284 ∧ z_gr 284 0 = 285 ∧ z_ln 284 = 200 := by decide +kernel
theorem e_freshY {fu : Nat} (hfu : 8589934592 ≤ fu) {s : z_M} (c : z_CI s) (h : y_V3 s) (y : y_Y4 s) : z_T (fX11_refresh fu s 1) (fun v s' => v = vN ∧ y_RF s s' ∧ y_U3 s' ∧ (y_SV 240 s' ∧ s' 1 12 = s 1 12) ∧ y_YC s') := by
  refine T_mono (sf_X11_refresh_1Y hfu s c h y) (fun v s' q => ?_)
  obtain ⟨c1, f, u, sv, yc, e⟩ := q
  exact ⟨e, ⟨c1, u.1, fun a b p q => f a b (by unfold R_X11_refresh_1; omega), fun a b p => f a b (by unfold R_X11_refresh_1; omega)⟩, u, ⟨sv, f 1 12 (by unfold R_X11_refresh_1; omega)⟩, yc⟩
/-- fresh, and laid out -/
def y_RY (s sr : z_M) : Prop := y_RF s sr ∧ y_U3 sr ∧ (y_SV 240 sr ∧ sr 1 12 = s 1 12) ∧ y_YC sr
/-- what the reference starts from -/
def y_GY (s : z_M) : Prop := z_CI s ∧ y_B s ∧ y_K s ∧ y_KM s ∧ y_YM s ∧ y_OKy s
/-- laid out -/
def y_RLm (s s' : z_M) : Prop := z_CI s' ∧ z_Fr R_X12_laysAll_309 s s' ∧ y_LBm (y_dm s') s' ∧ y_OKy s' ∧ y_KM s' ∧ s' 309 36 ≠ 0
theorem y_RLm.k {s s' : z_M} (h : y_RLm s s') (x y : Int) (q : (x ≤ 3223 ∧ x ≠ 309) ∨ (x = 309 ∧ (y = 0 ∨ y = 2 ∨ y = 19 ∨ y = 20))) : s' x y = s x y := h.2.1 x y (by unfold R_X12_laysAll_309; omega)
theorem em_lay {fu : Nat} (hfu : 8589934592 ≤ fu) {s : z_M} (h : y_GY s) : z_T (fX12_laysAll fu s 309) (fun v s' => v = vN ∧ y_RLm s s') := by
  obtain ⟨ci, yB, yK, km, ym, ok⟩ := h
  refine T_mono (sf_X12_laysAll_309Y hfu s ci yB yK km ym) (fun v s' hq => ?_)
  obtain ⟨c, f, _, _, _, k36, k43, _, km', ym', e⟩ := hq
  have ok' := (ok.fr (s' := s') (f 309 20 (by unfold R_X12_laysAll_309; omega)) (fun a b q => f a b (by unfold R_X12_laysAll_309; omega)) (fun j => f 312 j (by unfold R_X12_laysAll_309; omega))).1
  exact ⟨e, c, f, ym' ok' k36 k43, ok', km', k36⟩
theorem y_GY.z {s s1 : z_M} (h : y_GY s) (c : z_CI s1) (g : ∀ a b : Int, a ≠ 309 → s1 a b = s a b) (g' : ∀ b : Int, b ≠ 0 → s1 309 b = s 309 b) : y_GY s1 := by
  obtain ⟨_, yB, yK, km, ym, ok⟩ := h
  refine ⟨c, yB.fr (g' 20 (by decide)) (g 316 0 (by decide)) (fun b => g 3220 b (by decide)) (fun b => g 3221 b (by decide)) (fun b => g 3222 b (by decide)) (fun b => g 361 b (by decide)), ?_, km.fr (g' 20 (by decide)) (g' 36 (by decide)) (g' 38 (by decide)) (g' 39 (by decide)) (fun b => g 312 b (by decide)) (fun b => g 331 b (by decide)) (fun b => g 346 b (by decide)) (fun b => g 361 b (by decide)) (fun b => g 391 b (by decide)) (fun a b q => g a b (by omega)) (fun a b q => g a b (by omega)) (fun a b q => g a b (by omega)), ?_, (ok.fr (s' := s1) (g' 20 (by decide)) (fun a b q => g a b (by omega)) (fun j => g 312 j (by decide))).1⟩
  · have e36 := g' 36 (by decide)
    have e43 := g' 43 (by decide)
    exact y_K.fr yK (by have w := CI_b c (k := 309) (j := 58) bd_309_58; have w2 := g' 58 (by decide); omega) (by omega) (g' 44 (by decide)) (g' 20 (by decide)) (g' 58 (by decide)) (fun b => g 3438 b (by decide)) (fun b => g 3220 b (by decide)) (fun a b q => g a b (by omega))
  · have e36 := g' 36 (by decide)
    have e43 := g' 43 (by decide)
    exact ym.fr (by omega) (g' 44 (by decide)) (g' 20 (by decide)) (g' 58 (by decide)) (fun b => g 312 b (by decide)) (fun b => g 331 b (by decide)) (fun b => g 346 b (by decide)) (fun b => g 361 b (by decide)) (fun b => g 391 b (by decide)) (fun a b q => g a b (by omega)) (fun a b q => g a b (by omega)) (fun b => g 3438 b (by decide)) (fun a b q => g a b (by omega)) (fun a b q => g a b (by omega))
theorem y_RLm.z {s s1 s' : z_M} (h : y_RLm s1 s') (g : ∀ a b : Int, a ≠ 309 → s1 a b = s a b) (g' : ∀ b : Int, b ≠ 0 → s1 309 b = s 309 b) : (∀ x y : Int, (x ≤ 3223 ∧ x ≠ 309) ∨ (x = 309 ∧ (y = 2 ∨ y = 19 ∨ y = 20)) → s' x y = s x y) := fun x y q => by
  rw [h.k x y (by omega)]
  rcases q with ⟨_, q⟩ | ⟨rfl, q⟩
  · exact g x y q
  · exact g' y (by omega)
/-- laid out, but for the mark of a refusal -/
def y_RM (s s' : z_M) : Prop := z_CI s' ∧ (∀ x y : Int, (x ≤ 3223 ∧ x ≠ 309) ∨ (x = 309 ∧ (y = 2 ∨ y = 19 ∨ y = 20)) → s' x y = s x y) ∧ y_LBm (y_dm s') s' ∧ y_OKy s' ∧ y_KM s' ∧ s' 309 36 ≠ 0
theorem y_RLm.m {s s1 s' : z_M} (h : y_RLm s1 s') (g : ∀ a b : Int, a ≠ 309 → s1 a b = s a b) (g' : ∀ b : Int, b ≠ 0 → s1 309 b = s 309 b) : y_RM s s' := ⟨h.1, h.z g g', h.2.2⟩
theorem y_BT.lay {g s s' : z_M} (b : y_BT g s) (h : y_RM s s') : y_BT g s' := by
  obtain ⟨U, X, p, c, cg, st⟩ := b
  have k := h.2.1
  have n := y_NN.of c 0 (by decide) (by decide)
  refine ⟨U, ?_, p.fr (k _ _ (by omega)) (k _ _ (by omega)) (fun b => k _ _ (by omega)) (fun b => k _ _ (by omega)) (fun b => k _ _ (by omega)) (fun b => k _ _ (by omega)) (fun b => k _ _ (by omega)) (fun b => k _ _ (by omega)), h.1, cg, fun j => (st j).trans (k 312 j (by omega)).symm⟩
  obtain ⟨h1, h2, h3⟩ := X
  have r : y_RS2 s s' 0 0 := ⟨k _ _ (by omega), k _ _ (by omega), k _ _ (by omega), fun b _ _ => ⟨k _ _ (by omega), k _ _ (by omega), k _ _ (by omega), k _ _ (by omega)⟩, y_RGL.fr (by decide) (fun a b q => k a b (by omega)) (fun a b q => k a b (by omega))⟩
  have r1 := r.2.1
  refine ⟨?_, h2, h3.rs r n.1 n.2.2 n.2.1⟩
  rw [r1]
  exact h1.rs r n.1
/-- both layouts, row by row -/
theorem y_BT.le {g s s' : z_M} (b : y_BT g s) (ok : y_OKc g) (yc : y_YC g) (h : y_RM s s') : y_LEq g s' ∧ y_BT g s' := ⟨y_LBx (b.lay h) (yc ok) h.2.2.1, b.lay h⟩
/-- answers -/
def y_QY (s : z_M) (v : z_V) (ok0 : z_M → Prop) (ok1 : Prop) (F : z_M → Int) : Prop := ∃ sr, y_RY s sr ∧ ((¬ ok0 sr ∧ v = vX 0) ∨ (ok0 sr ∧ ¬ ok1 ∧ v = vX 1) ∨ (ok0 sr ∧ ok1 ∧ v = vI (F sr)))
def y_AU (s s' : z_M) (ok0 ok1 : Prop) (y : Int) (G : z_M → Int) : Prop := (¬ ok0 ∧ s' 309 0 = 1) ∨ (ok0 ∧ ¬ ok1 ∧ s' 309 0 = 2) ∨ (ok0 ∧ ok1 ∧ s' 309 0 = 0 ∧ ∃ sl, y_RM s sl ∧ y = G sl)
def y_AY (s s' : z_M) (ok0 : z_M → Prop) (ok1 : Prop) (y : Int) (G : z_M → Int) : Prop := ∃ sl, y_RM s sl ∧ y_A2 s' (ok0 sl) ok1 y (G sl)
theorem y_JUn {s s1 s2 : z_M} {v0 : z_V} {ok0 : z_M → Prop} {p0 p1 : Prop} {F G : z_M → Int} {x y : Int} (q : y_QY s v0 ok0 p1 F) (vx : y_VX 1 2 s1 v0 x) (a : y_AU s1 s2 p0 p1 y G) (o : s2 7658 0 = s1 7658 0) (h0 : ∀ sr, y_RF s sr → (ok0 sr ↔ p0)) (e : ∀ sr sl, p0 → p1 → y_RY s sr → y_RM s1 sl → F sr = G sl) : s2 309 0 = x ∧ (x = 0 → s2 7658 0 = y) := by
  obtain ⟨sr, ry, q⟩ := q
  refine y_J0 (e1 := 0) (s := s) (ok0 := fun _ => ok0 sr) (ok1 := fun _ => p1) (F := fun _ => F sr) (z := y) ⟨sr, ry.1, q⟩ vx (a.imp id (fun a => a.imp id (fun a => ⟨a.1, a.2.1, a.2.2.1, rfl⟩))) o (fun _ _ => h0 sr ry.1) (fun _ _ => Iff.rfl) (fun _ k0 k1 _ => ?_)
  rcases a with ⟨n, _⟩ | ⟨_, n, _⟩ | ⟨_, _, _, sl, rl, ey⟩
  · exact absurd k0 n
  · exact absurd k1 n
  · rw [ey]; exact e sr sl k0 k1 ry rl
theorem y_JY {s s1 s2 : z_M} {v0 : z_V} {ok0 pk0 : z_M → Prop} {p1 : Prop} {F G : z_M → Int} {x y : Int} (q : y_QY s v0 ok0 p1 F) (vx : y_VX 1 2 s1 v0 x) (a : y_AY s1 s2 pk0 p1 y G) (o : s2 7658 0 = s1 7658 0) (h0 : ∀ sr sl, y_RY s sr → y_RM s1 sl → (ok0 sr ↔ pk0 sl)) (e : ∀ sr sl, pk0 sl → p1 → y_RY s sr → y_RM s1 sl → F sr = G sl) : s2 309 0 = x ∧ (x = 0 → s2 7658 0 = y) := by
  obtain ⟨sr, ry, q⟩ := q
  obtain ⟨sl, rl, a⟩ := a
  exact y_J0 (e1 := 0) (s := s) (ok0 := fun _ => ok0 sr) (ok1 := fun _ => p1) (F := fun _ => F sr) ⟨sr, ry.1, q⟩ vx a o (fun _ _ => h0 sr sl ry rl) (fun _ _ => Iff.rfl) (fun _ k0 k1 _ => e sr sl k0 k1 ry rl)
/-- one of eight -/
def y_v8 (q x0 x1 x2 x3 x4 x5 x6 x7 : Int) : Int := if q = 0 then x0 else if q = 1 then x1 else if q = 2 then x2 else if q = 3 then x3 else if q = 4 then x4 else if q = 5 then x5 else if q = 6 then x6 else x7
theorem y_v8_cg {q x0 x1 x2 x3 x4 x5 x6 x7 z0 z1 z2 z3 z4 z5 z6 z7 : Int} (e0 : x0 = z0) (e1 : x1 = z1) (e2 : x2 = z2) (e3 : x3 = z3) (e4 : x4 = z4) (e5 : x5 = z5) (e6 : x6 = z6) (e7 : x7 = z7) : y_v8 q x0 x1 x2 x3 x4 x5 x6 x7 = y_v8 q z0 z1 z2 z3 z4 z5 z6 z7 := by rw [e0, e1, e2, e3, e4, e5, e6, e7]
theorem y_LBc.b9 {D s : z_M} (h : y_LBc D s) (hn : 0 ≤ s 191 16 ∧ s 191 16 ≤ 200) : 0 ≤ s 279 9 ∧ s 279 9 ≤ 200 := by
  obtain ⟨nx, cc, ⟨hx, hc, h6, hr⟩, ly, l278, l279⟩ := h
  have at' : ∀ i : Int, 0 ≤ i → i < (cc : Int) → 0 ≤ s 248 i ∧ s 248 i < s 248 (i + 1) ∧ s 248 (i + 1) ≤ s 191 16 := fun i p q => hr.SV hx.b p q
  have kb := y_bi_r (D := D) at' cc cc rfl (Int.le_refl _)
  rw [l279, h6]
  by_cases z : 0 < (cc : Int)
  · have w := kb.2 z
    have e := (hr.1 cc (Nat.le_refl _)).trans hr.2.2
    omega
  · have e0 : (cc : Int) = 0 := by omega
    rw [e0]
    have w : y_bn D (s 248) 0 = 0 := y_su0
    omega
/-- unit -/
theorem e_cunit {fu : Nat} (hfu : 8589934592 ≤ fu) {s : z_M} (c : z_CI s) (h : y_V3 s) (hy : y_Y4 s) {p q : Int} : z_T (fX11_unit fu s 1 p q) (fun v _ => y_QY s v (fun sr => 0 ≤ p ∧ p < sr 191 16) (0 ≤ q ∧ q ≤ 7) (fun sr => y_v8 q (sr 193 p) (sr 195 p) (sr 197 p) (sr 264 p) (sr 260 p) (sr 262 p) (sr 201 p) (sr 266 p))) := by
  refine T_of (fX11_unit.eq_1 ..) ?_
  refine T_if1 v_ob1 ?_
  refine T_useN (e_freshY hfu c h hy) (fun v sr hq => ?_)
  obtain ⟨rfl, ry⟩ := hq
  refine T_vN ?_
  have rf := ry.1
  have hn := CI_b rf.1 (k := 191) (j := 16) bd_191_16q
  refine T_if1 v_ob1 ?_
  refine T_let 191 (by decide +kernel) ?_
  refine T_if1 v_ob191 ?_
  refine T_let (sr 191 16) rfl ?_
  refine T_if1 v_ob1 ?_
  refine T_nen (fun n => T_ret ⟨sr, ry, Or.inl ⟨n, rfl⟩⟩) (fun h0 h1 => ?_)
  refine T_if1 v_ob1 ?_
  refine T_nwn (fun n => T_ret ⟨sr, ry, Or.inr (Or.inl ⟨⟨h0, h1⟩, n, rfl⟩)⟩) (fun k0 k1 => ?_)
  refine T_ite (fun z0 => ?_) (fun z0 => ?_)
  · refine T_if1 v_ob1 ?_
    refine T_let 191 (by decide +kernel) ?_
    refine T_if1 v_ob191 ?_
    refine T_let 192 (by decide +kernel) ?_
    refine T_if1 (by decide +kernel) ?_
    refine T_getV w_r192 (by omega) rfl ?_
    refine T_ret ⟨sr, ry, Or.inr (Or.inr ⟨⟨h0, h1⟩, ⟨k0, k1⟩, ?_⟩)⟩
    show vI (sr 193 p) = vI (y_v8 ..)
    unfold y_v8
    rw [if_pos z0]
  · refine T_ite (fun z1 => ?_) (fun z1 => ?_)
    · refine T_if1 v_ob1 ?_
      refine T_let 191 (by decide +kernel) ?_
      refine T_if1 v_ob191 ?_
      refine T_let 194 (by decide +kernel) ?_
      refine T_if1 (by decide +kernel) ?_
      refine T_getV w_r194 (by omega) rfl ?_
      refine T_ret ⟨sr, ry, Or.inr (Or.inr ⟨⟨h0, h1⟩, ⟨k0, k1⟩, ?_⟩)⟩
      show vI (sr 195 p) = vI (y_v8 ..)
      unfold y_v8
      rw [if_neg z0, if_pos z1]
    · refine T_ite (fun z2 => ?_) (fun z2 => ?_)
      · refine T_if1 v_ob1 ?_
        refine T_let 191 (by decide +kernel) ?_
        refine T_if1 v_ob191 ?_
        refine T_let 196 (by decide +kernel) ?_
        refine T_if1 (by decide +kernel) ?_
        refine T_getV w_r196 (by omega) rfl ?_
        refine T_ret ⟨sr, ry, Or.inr (Or.inr ⟨⟨h0, h1⟩, ⟨k0, k1⟩, ?_⟩)⟩
        show vI (sr 197 p) = vI (y_v8 ..)
        unfold y_v8
        rw [if_neg z0, if_neg z1, if_pos z2]
      · refine T_ite (fun z3 => ?_) (fun z3 => ?_)
        · refine T_if1 v_ob1 ?_
          refine T_let 258 (by decide +kernel) ?_
          refine T_if1 (by decide +kernel) ?_
          refine T_let 263 (by decide +kernel) ?_
          refine T_if1 (by decide +kernel) ?_
          refine T_getV w_r263 (by omega) rfl ?_
          refine T_ret ⟨sr, ry, Or.inr (Or.inr ⟨⟨h0, h1⟩, ⟨k0, k1⟩, ?_⟩)⟩
          show vI (sr 264 p) = vI (y_v8 ..)
          unfold y_v8
          rw [if_neg z0, if_neg z1, if_neg z2, if_pos z3]
        · refine T_ite (fun z4 => ?_) (fun z4 => ?_)
          · refine T_if1 v_ob1 ?_
            refine T_let 258 (by decide +kernel) ?_
            refine T_if1 (by decide +kernel) ?_
            refine T_let 259 (by decide +kernel) ?_
            refine T_if1 (by decide +kernel) ?_
            refine T_getV w_r259 (by omega) rfl ?_
            refine T_ret ⟨sr, ry, Or.inr (Or.inr ⟨⟨h0, h1⟩, ⟨k0, k1⟩, ?_⟩)⟩
            show vI (sr 260 p) = vI (y_v8 ..)
            unfold y_v8
            rw [if_neg z0, if_neg z1, if_neg z2, if_neg z3, if_pos z4]
          · refine T_ite (fun z5 => ?_) (fun z5 => ?_)
            · refine T_if1 v_ob1 ?_
              refine T_let 258 (by decide +kernel) ?_
              refine T_if1 (by decide +kernel) ?_
              refine T_let 261 (by decide +kernel) ?_
              refine T_if1 (by decide +kernel) ?_
              refine T_getV w_r261 (by omega) rfl ?_
              refine T_ret ⟨sr, ry, Or.inr (Or.inr ⟨⟨h0, h1⟩, ⟨k0, k1⟩, ?_⟩)⟩
              show vI (sr 262 p) = vI (y_v8 ..)
              unfold y_v8
              rw [if_neg z0, if_neg z1, if_neg z2, if_neg z3, if_neg z4, if_pos z5]
            · refine T_ite (fun z6 => ?_) (fun z6 => ?_)
              · refine T_if1 v_ob1 ?_
                refine T_let 191 (by decide +kernel) ?_
                refine T_if1 v_ob191 ?_
                refine T_let 200 (by decide +kernel) ?_
                refine T_if1 (by decide +kernel) ?_
                refine T_getV w_r200 (by omega) rfl ?_
                refine T_ret ⟨sr, ry, Or.inr (Or.inr ⟨⟨h0, h1⟩, ⟨k0, k1⟩, ?_⟩)⟩
                show vI (sr 201 p) = vI (y_v8 ..)
                unfold y_v8
                rw [if_neg z0, if_neg z1, if_neg z2, if_neg z3, if_neg z4, if_neg z5, if_pos z6]
              · refine T_if1 v_ob1 ?_
                refine T_let 258 (by decide +kernel) ?_
                refine T_if1 (by decide +kernel) ?_
                refine T_let 265 (by decide +kernel) ?_
                refine T_if1 (by decide +kernel) ?_
                refine T_getV w_r265 (by omega) rfl ?_
                refine T_ret ⟨sr, ry, Or.inr (Or.inr ⟨⟨h0, h1⟩, ⟨k0, k1⟩, ?_⟩)⟩
                show vI (sr 266 p) = vI (y_v8 ..)
                unfold y_v8
                rw [if_neg z0, if_neg z1, if_neg z2, if_neg z3, if_neg z4, if_neg z5, if_neg z6]
/-- sign -/
theorem e_csign {fu : Nat} (hfu : 8589934592 ≤ fu) {s : z_M} (c : z_CI s) (h : y_V3 s) (hy : y_Y4 s) (ht : ∀ sr, y_RF s sr → y_TOK sr) {p q : Int} : z_T (fX11_sign fu s 1 p q) (fun v _ => y_QY s v (fun sr => 0 ≤ p ∧ p < sr 6 6) (0 ≤ q ∧ q ≤ 6) (fun sr => y_v8 q (sr 8 p) (sr 215 p) (sr 260 (sr 215 p)) (sr 268 p) (sr 219 p) (y_mk sr 0 p) (y_mk sr 1 p) (y_mk sr 1 p))) := by
  refine T_of (fX11_sign.eq_1 ..) ?_
  refine T_if1 v_ob1 ?_
  refine T_useN (e_freshY hfu c h hy) (fun v sr hq => ?_)
  obtain ⟨rfl, ry⟩ := hq
  refine T_vN ?_
  have rf := ry.1
  have hn := CI_b rf.1 (k := 191) (j := 16) bd_191_16q
  have h6 := CI_b rf.1 (k := 6) (j := 6) bd_6_6
  refine T_if1 v_ob1 ?_
  refine T_let 6 (by decide +kernel) ?_
  refine T_if1 (by decide +kernel) ?_
  refine T_let (sr 6 6) rfl ?_
  refine T_if1 v_ob1 ?_
  refine T_nen (fun n => T_ret ⟨sr, ry, Or.inl ⟨n, rfl⟩⟩) (fun h0 h1 => ?_)
  refine T_if1 v_ob1 ?_
  refine T_nwn (fun n => T_ret ⟨sr, ry, Or.inr (Or.inl ⟨⟨h0, h1⟩, n, rfl⟩)⟩) (fun k0 k1 => ?_)
  have hu := y_PCi_u rf.2.1 (ht sr rf) h0 h1
  refine T_ite (fun z0 => ?_) (fun z0 => ?_)
  · refine T_if1 v_ob1 ?_
    refine T_let 6 (by decide +kernel) ?_
    refine T_if1 (by decide +kernel) ?_
    refine T_let 7 (by decide +kernel) ?_
    refine T_if1 (by decide +kernel) ?_
    refine T_getV w_r7 (by omega) rfl ?_
    refine T_ret ⟨sr, ry, Or.inr (Or.inr ⟨⟨h0, h1⟩, ⟨k0, k1⟩, ?_⟩)⟩
    show vI (sr 8 p) = vI (y_v8 ..)
    unfold y_v8
    rw [if_pos z0]
  · refine T_ite (fun z1 => ?_) (fun z1 => ?_)
    · refine T_if1 v_ob1 ?_
      refine T_let 191 (by decide +kernel) ?_
      refine T_if1 v_ob191 ?_
      refine T_let 214 (by decide +kernel) ?_
      refine T_if1 (by decide +kernel) ?_
      refine T_getV w_r214 (by omega) rfl ?_
      refine T_ret ⟨sr, ry, Or.inr (Or.inr ⟨⟨h0, h1⟩, ⟨k0, k1⟩, ?_⟩)⟩
      show vI (sr 215 p) = vI (y_v8 ..)
      unfold y_v8
      rw [if_neg z0, if_pos z1]
    · refine T_ite (fun z2 => ?_) (fun z2 => ?_)
      · refine T_if1 v_ob1 ?_
        refine T_let 258 (by decide +kernel) ?_
        refine T_if1 (by decide +kernel) ?_
        refine T_let 259 (by decide +kernel) ?_
        refine T_if1 v_ob1 ?_
        refine T_let 191 (by decide +kernel) ?_
        refine T_if1 v_ob191 ?_
        refine T_let 214 (by decide +kernel) ?_
        refine T_if1 (by decide +kernel) ?_
        refine T_getV w_r214 (by omega) rfl ?_
        refine T_if1 (by decide +kernel) ?_
        refine T_getV w_r259 (by omega) rfl ?_
        refine T_ret ⟨sr, ry, Or.inr (Or.inr ⟨⟨h0, h1⟩, ⟨k0, k1⟩, ?_⟩)⟩
        show vI (sr 260 (sr 215 p)) = vI (y_v8 ..)
        unfold y_v8
        rw [if_neg z0, if_neg z1, if_pos z2]
      · refine T_ite (fun z3 => ?_) (fun z3 => ?_)
        · refine T_if1 v_ob1 ?_
          refine T_let 258 (by decide +kernel) ?_
          refine T_if1 (by decide +kernel) ?_
          refine T_let 267 (by decide +kernel) ?_
          refine T_if1 (by decide +kernel) ?_
          refine T_getV w_r267 (by omega) rfl ?_
          refine T_ret ⟨sr, ry, Or.inr (Or.inr ⟨⟨h0, h1⟩, ⟨k0, k1⟩, ?_⟩)⟩
          show vI (sr 268 p) = vI (y_v8 ..)
          unfold y_v8
          rw [if_neg z0, if_neg z1, if_neg z2, if_pos z3]
        · refine T_ite (fun z4 => ?_) (fun z4 => ?_)
          · refine T_if1 v_ob1 ?_
            refine T_let 191 (by decide +kernel) ?_
            refine T_if1 v_ob191 ?_
            refine T_let 218 (by decide +kernel) ?_
            refine T_if1 (by decide +kernel) ?_
            refine T_getV w_r218 (by omega) rfl ?_
            refine T_ret ⟨sr, ry, Or.inr (Or.inr ⟨⟨h0, h1⟩, ⟨k0, k1⟩, ?_⟩)⟩
            show vI (sr 219 p) = vI (y_v8 ..)
            unfold y_v8
            rw [if_neg z0, if_neg z1, if_neg z2, if_neg z3, if_pos z4]
          · refine T_ite (fun z5 => ?_) (fun z5 => ?_)
            · refine T_if1 v_ob1 ?_
              refine T_let 191 (by decide +kernel) ?_
              refine T_if1 v_ob191 ?_
              refine T_bI (T_of (e_markOf (by omega) (by omega)) (T_rI ?_))
              refine T_ret ⟨sr, ry, Or.inr (Or.inr ⟨⟨h0, h1⟩, ⟨k0, k1⟩, ?_⟩)⟩
              show vI (y_mk sr 0 p) = vI (y_v8 ..)
              unfold y_v8
              rw [if_neg z0, if_neg z1, if_neg z2, if_neg z3, if_neg z4, if_pos z5]
            · refine T_if1 v_ob1 ?_
              refine T_let 191 (by decide +kernel) ?_
              refine T_if1 v_ob191 ?_
              refine T_bI (T_of (e_markOf (by omega) (by omega)) (T_rI ?_))
              refine T_ret ⟨sr, ry, Or.inr (Or.inr ⟨⟨h0, h1⟩, ⟨k0, k1⟩, ?_⟩)⟩
              show vI (y_mk sr 1 p) = vI (y_v8 ..)
              unfold y_v8
              rw [if_neg z0, if_neg z1, if_neg z2, if_neg z3, if_neg z4, if_neg z5, if_pos (show q = 6 by omega)]
/-- line -/
theorem e_cline {fu : Nat} (hfu : 8589934592 ≤ fu) {s : z_M} (c : z_CI s) (h : y_V3 s) (hy : y_Y4 s) {p q : Int} : z_T (fX11_line fu s 1 p q) (fun v _ => y_QY s v (fun sr => 0 ≤ p ∧ p < sr 240 6) (0 ≤ q ∧ q ≤ 7) (fun sr => y_v8 q (sr 248 p) (z_w (sr 248 (p + 1) - sr 248 p)) (sr 270 p) (z_w (sr 3 0 - sr 270 p)) (sr 272 p) (z_w (sr 278 (p + 1) - sr 278 p)) (sr 274 p) (sr 276 p))) := by
  refine T_of (fX11_line.eq_1 ..) ?_
  refine T_if1 v_ob1 ?_
  refine T_useN (e_freshY hfu c h hy) (fun v sr hq => ?_)
  obtain ⟨rfl, ry⟩ := hq
  refine T_vN ?_
  have rf := ry.1
  have hn := CI_b rf.1 (k := 191) (j := 16) bd_191_16q
  have h6 := CI_b rf.1 (k := 240) (j := 6) bd_240_6
  refine T_if1 v_ob1 ?_
  refine T_let 240 (by decide +kernel) ?_
  refine T_if1 (by decide +kernel) ?_
  refine T_let (sr 240 6) rfl ?_
  refine T_if1 v_ob1 ?_
  refine T_nen (fun n => T_ret ⟨sr, ry, Or.inl ⟨n, rfl⟩⟩) (fun h0 h1 => ?_)
  refine T_if1 v_ob1 ?_
  refine T_nwn (fun n => T_ret ⟨sr, ry, Or.inr (Or.inl ⟨⟨h0, h1⟩, n, rfl⟩)⟩) (fun k0 k1 => ?_)
  refine T_ite (fun z0 => ?_) (fun z0 => ?_)
  · refine T_if1 v_ob1 ?_
    refine T_let 240 (by decide +kernel) ?_
    refine T_if1 (by decide +kernel) ?_
    refine T_let 247 (by decide +kernel) ?_
    refine T_if1 (by decide +kernel) ?_
    refine T_getV w_r247 (by omega) rfl ?_
    refine T_ret ⟨sr, ry, Or.inr (Or.inr ⟨⟨h0, h1⟩, ⟨k0, k1⟩, ?_⟩)⟩
    show vI (sr 248 p) = vI (y_v8 ..)
    unfold y_v8
    rw [if_pos z0]
  · refine T_ite (fun z1 => ?_) (fun z1 => ?_)
    · refine T_if1 v_ob1 ?_
      refine T_let 240 (by decide +kernel) ?_
      refine T_if1 (by decide +kernel) ?_
      refine T_let 247 (by decide +kernel) ?_
      refine T_let (p + 1) (v_wid (by omega)) ?_
      refine T_if1 (by decide +kernel) ?_
      refine T_getV w_r247 (by omega) rfl ?_
      refine T_if1 v_ob1 ?_
      refine T_let 240 (by decide +kernel) ?_
      refine T_if1 (by decide +kernel) ?_
      refine T_let 247 (by decide +kernel) ?_
      refine T_if1 (by decide +kernel) ?_
      refine T_getV w_r247 (by omega) rfl ?_
      refine T_let (z_w ((sr 248 (p + 1)) - (sr 248 p))) rfl ?_
      refine T_ret ⟨sr, ry, Or.inr (Or.inr ⟨⟨h0, h1⟩, ⟨k0, k1⟩, ?_⟩)⟩
      show vI (z_w ((sr 248 (p + 1)) - (sr 248 p))) = vI (y_v8 ..)
      unfold y_v8
      rw [if_neg z0, if_pos z1]
    · refine T_ite (fun z2 => ?_) (fun z2 => ?_)
      · refine T_if1 v_ob1 ?_
        refine T_let 258 (by decide +kernel) ?_
        refine T_if1 (by decide +kernel) ?_
        refine T_let 269 (by decide +kernel) ?_
        refine T_if1 (by decide +kernel) ?_
        refine T_getV w_r269 (by omega) rfl ?_
        refine T_ret ⟨sr, ry, Or.inr (Or.inr ⟨⟨h0, h1⟩, ⟨k0, k1⟩, ?_⟩)⟩
        show vI (sr 270 p) = vI (y_v8 ..)
        unfold y_v8
        rw [if_neg z0, if_neg z1, if_pos z2]
      · refine T_ite (fun z3 => ?_) (fun z3 => ?_)
        · refine T_if1 v_ob1 ?_
          refine T_let 2 (by decide +kernel) ?_
          refine T_if1 (by decide +kernel) ?_
          refine T_getV w_r2 (by omega) rfl ?_
          refine T_if1 v_ob1 ?_
          refine T_let 258 (by decide +kernel) ?_
          refine T_if1 (by decide +kernel) ?_
          refine T_let 269 (by decide +kernel) ?_
          refine T_if1 (by decide +kernel) ?_
          refine T_getV w_r269 (by omega) rfl ?_
          refine T_let (z_w ((sr 3 0) - (sr 270 p))) rfl ?_
          refine T_ret ⟨sr, ry, Or.inr (Or.inr ⟨⟨h0, h1⟩, ⟨k0, k1⟩, ?_⟩)⟩
          show vI (z_w ((sr 3 0) - (sr 270 p))) = vI (y_v8 ..)
          unfold y_v8
          rw [if_neg z0, if_neg z1, if_neg z2, if_pos z3]
        · refine T_ite (fun z4 => ?_) (fun z4 => ?_)
          · refine T_if1 v_ob1 ?_
            refine T_let 258 (by decide +kernel) ?_
            refine T_if1 (by decide +kernel) ?_
            refine T_let 271 (by decide +kernel) ?_
            refine T_if1 (by decide +kernel) ?_
            refine T_getV w_r271 (by omega) rfl ?_
            refine T_ret ⟨sr, ry, Or.inr (Or.inr ⟨⟨h0, h1⟩, ⟨k0, k1⟩, ?_⟩)⟩
            show vI (sr 272 p) = vI (y_v8 ..)
            unfold y_v8
            rw [if_neg z0, if_neg z1, if_neg z2, if_neg z3, if_pos z4]
          · refine T_ite (fun z5 => ?_) (fun z5 => ?_)
            · refine T_if1 v_ob1 ?_
              refine T_let 258 (by decide +kernel) ?_
              refine T_if1 (by decide +kernel) ?_
              refine T_let 277 (by decide +kernel) ?_
              refine T_let (p + 1) (v_wid (by omega)) ?_
              refine T_if1 (by decide +kernel) ?_
              refine T_getV w_r277 (by omega) rfl ?_
              refine T_if1 v_ob1 ?_
              refine T_let 258 (by decide +kernel) ?_
              refine T_if1 (by decide +kernel) ?_
              refine T_let 277 (by decide +kernel) ?_
              refine T_if1 (by decide +kernel) ?_
              refine T_getV w_r277 (by omega) rfl ?_
              refine T_let (z_w ((sr 278 (p + 1)) - (sr 278 p))) rfl ?_
              refine T_ret ⟨sr, ry, Or.inr (Or.inr ⟨⟨h0, h1⟩, ⟨k0, k1⟩, ?_⟩)⟩
              show vI (z_w ((sr 278 (p + 1)) - (sr 278 p))) = vI (y_v8 ..)
              unfold y_v8
              rw [if_neg z0, if_neg z1, if_neg z2, if_neg z3, if_neg z4, if_pos z5]
            · refine T_ite (fun z6 => ?_) (fun z6 => ?_)
              · refine T_if1 v_ob1 ?_
                refine T_let 258 (by decide +kernel) ?_
                refine T_if1 (by decide +kernel) ?_
                refine T_let 273 (by decide +kernel) ?_
                refine T_if1 (by decide +kernel) ?_
                refine T_getV w_r273 (by omega) rfl ?_
                refine T_ret ⟨sr, ry, Or.inr (Or.inr ⟨⟨h0, h1⟩, ⟨k0, k1⟩, ?_⟩)⟩
                show vI (sr 274 p) = vI (y_v8 ..)
                unfold y_v8
                rw [if_neg z0, if_neg z1, if_neg z2, if_neg z3, if_neg z4, if_neg z5, if_pos z6]
              · refine T_if1 v_ob1 ?_
                refine T_let 258 (by decide +kernel) ?_
                refine T_if1 (by decide +kernel) ?_
                refine T_let 275 (by decide +kernel) ?_
                refine T_if1 (by decide +kernel) ?_
                refine T_getV w_r275 (by omega) rfl ?_
                refine T_ret ⟨sr, ry, Or.inr (Or.inr ⟨⟨h0, h1⟩, ⟨k0, k1⟩, ?_⟩)⟩
                show vI (sr 276 p) = vI (y_v8 ..)
                unfold y_v8
                rw [if_neg z0, if_neg z1, if_neg z2, if_neg z3, if_neg z4, if_neg z5, if_neg z6]
/-- block -/
theorem e_cblock {fu : Nat} (hfu : 8589934592 ≤ fu) {s : z_M} (c : z_CI s) (h : y_V3 s) (hy : y_Y4 s) (hk : ∀ sr, y_RF s sr → y_OKc sr) {p q : Int} : z_T (fX11_block fu s 1 p q) (fun v _ => y_QY s v (fun sr => 0 ≤ p ∧ p < sr 279 9) (0 ≤ q ∧ q ≤ 7) (fun sr => y_v8 q (sr 281 p) (z_w (z_w (sr 283 p - sr 281 p) + 1)) (sr 285 p) (sr 287 p) (sr 289 p) (sr 291 p) (z_w (z_w (Int.tdiv (sr 287 p) 2) - sr 289 p)) (z_w (z_w (sr 287 p - z_w (Int.tdiv (sr 287 p) 2)) - sr 291 p)))) := by
  refine T_of (fX11_block.eq_1 ..) ?_
  refine T_if1 v_ob1 ?_
  refine T_useN (e_freshY hfu c h hy) (fun v sr hq => ?_)
  obtain ⟨rfl, ry⟩ := hq
  refine T_vN ?_
  have rf := ry.1
  have hn := CI_b rf.1 (k := 191) (j := 16) bd_191_16q
  have h6 := (ry.2.2.2 (hk sr rf)).b9 (by omega)
  refine T_if1 v_ob1 ?_
  refine T_let 258 (by decide +kernel) ?_
  refine T_if1 (by decide +kernel) ?_
  refine T_let 279 (by decide +kernel) ?_
  refine T_if1 (by decide +kernel) ?_
  refine T_let (sr 279 9) rfl ?_
  refine T_if1 v_ob1 ?_
  refine T_nen (fun n => T_ret ⟨sr, ry, Or.inl ⟨n, rfl⟩⟩) (fun h0 h1 => ?_)
  refine T_if1 v_ob1 ?_
  refine T_nwn (fun n => T_ret ⟨sr, ry, Or.inr (Or.inl ⟨⟨h0, h1⟩, n, rfl⟩)⟩) (fun k0 k1 => ?_)
  refine T_ite (fun z0 => ?_) (fun z0 => ?_)
  · refine T_if1 (by decide +kernel) ?_
    refine T_let 280 (by decide +kernel) ?_
    refine T_if1 (by decide +kernel) ?_
    refine T_getV w_r280 (by omega) rfl ?_
    refine T_ret ⟨sr, ry, Or.inr (Or.inr ⟨⟨h0, h1⟩, ⟨k0, k1⟩, ?_⟩)⟩
    show vI (sr 281 p) = vI (y_v8 ..)
    unfold y_v8
    rw [if_pos z0]
  · refine T_ite (fun z1 => ?_) (fun z1 => ?_)
    · refine T_if1 (by decide +kernel) ?_
      refine T_let 282 (by decide +kernel) ?_
      refine T_if1 (by decide +kernel) ?_
      refine T_getV w_r282 (by omega) rfl ?_
      refine T_if1 (by decide +kernel) ?_
      refine T_let 280 (by decide +kernel) ?_
      refine T_if1 (by decide +kernel) ?_
      refine T_getV w_r280 (by omega) rfl ?_
      refine T_let (z_w ((sr 283 p) - (sr 281 p))) rfl ?_
      refine T_let (z_w ((z_w ((sr 283 p) - (sr 281 p))) + 1)) rfl ?_
      refine T_ret ⟨sr, ry, Or.inr (Or.inr ⟨⟨h0, h1⟩, ⟨k0, k1⟩, ?_⟩)⟩
      show vI (z_w ((z_w ((sr 283 p) - (sr 281 p))) + 1)) = vI (y_v8 ..)
      unfold y_v8
      rw [if_neg z0, if_pos z1]
    · refine T_ite (fun z2 => ?_) (fun z2 => ?_)
      · refine T_if1 (by decide +kernel) ?_
        refine T_let 284 (by decide +kernel) ?_
        refine T_if1 (by decide +kernel) ?_
        refine T_getV w_r284 (by omega) rfl ?_
        refine T_ret ⟨sr, ry, Or.inr (Or.inr ⟨⟨h0, h1⟩, ⟨k0, k1⟩, ?_⟩)⟩
        show vI (sr 285 p) = vI (y_v8 ..)
        unfold y_v8
        rw [if_neg z0, if_neg z1, if_pos z2]
      · refine T_ite (fun z3 => ?_) (fun z3 => ?_)
        · refine T_if1 (by decide +kernel) ?_
          refine T_let 286 (by decide +kernel) ?_
          refine T_if1 (by decide +kernel) ?_
          refine T_getV w_r286 (by omega) rfl ?_
          refine T_ret ⟨sr, ry, Or.inr (Or.inr ⟨⟨h0, h1⟩, ⟨k0, k1⟩, ?_⟩)⟩
          show vI (sr 287 p) = vI (y_v8 ..)
          unfold y_v8
          rw [if_neg z0, if_neg z1, if_neg z2, if_pos z3]
        · refine T_ite (fun z4 => ?_) (fun z4 => ?_)
          · refine T_if1 (by decide +kernel) ?_
            refine T_let 288 (by decide +kernel) ?_
            refine T_if1 (by decide +kernel) ?_
            refine T_getV w_r288 (by omega) rfl ?_
            refine T_ret ⟨sr, ry, Or.inr (Or.inr ⟨⟨h0, h1⟩, ⟨k0, k1⟩, ?_⟩)⟩
            show vI (sr 289 p) = vI (y_v8 ..)
            unfold y_v8
            rw [if_neg z0, if_neg z1, if_neg z2, if_neg z3, if_pos z4]
          · refine T_ite (fun z5 => ?_) (fun z5 => ?_)
            · refine T_if1 (by decide +kernel) ?_
              refine T_let 290 (by decide +kernel) ?_
              refine T_if1 (by decide +kernel) ?_
              refine T_getV w_r290 (by omega) rfl ?_
              refine T_ret ⟨sr, ry, Or.inr (Or.inr ⟨⟨h0, h1⟩, ⟨k0, k1⟩, ?_⟩)⟩
              show vI (sr 291 p) = vI (y_v8 ..)
              unfold y_v8
              rw [if_neg z0, if_neg z1, if_neg z2, if_neg z3, if_neg z4, if_pos z5]
            · refine T_ite (fun z6 => ?_) (fun z6 => ?_)
              · refine T_if1 (by decide +kernel) ?_
                refine T_bI (T_of (fX0_padAhead.eq_1 ..) ?_)
                refine T_if1 (by decide +kernel) ?_
                refine T_let 286 (by decide +kernel) ?_
                refine T_if1 (by decide +kernel) ?_
                refine T_getV w_r286 (by omega) rfl ?_
                refine T_if1 (by omega) ?_
                refine T_let (z_w (Int.tdiv (sr 287 p) 2)) rfl ?_
                refine T_if1 (by decide +kernel) ?_
                refine T_let 288 (by decide +kernel) ?_
                refine T_if1 (by decide +kernel) ?_
                refine T_getV w_r288 (by omega) rfl ?_
                refine T_let (z_w ((z_w (Int.tdiv (sr 287 p) 2)) - (sr 289 p))) rfl ?_
                refine T_rI ?_
                refine T_ret ⟨sr, ry, Or.inr (Or.inr ⟨⟨h0, h1⟩, ⟨k0, k1⟩, ?_⟩)⟩
                show vI (z_w ((z_w (Int.tdiv (sr 287 p) 2)) - (sr 289 p))) = vI (y_v8 ..)
                unfold y_v8
                rw [if_neg z0, if_neg z1, if_neg z2, if_neg z3, if_neg z4, if_neg z5, if_pos z6]
              · refine T_if1 (by decide +kernel) ?_
                refine T_bI (T_of (fX0_padBehind.eq_1 ..) ?_)
                refine T_if1 (by decide +kernel) ?_
                refine T_let 286 (by decide +kernel) ?_
                refine T_if1 (by decide +kernel) ?_
                refine T_getV w_r286 (by omega) rfl ?_
                refine T_if1 (by decide +kernel) ?_
                refine T_let 286 (by decide +kernel) ?_
                refine T_if1 (by decide +kernel) ?_
                refine T_getV w_r286 (by omega) rfl ?_
                refine T_if1 (by omega) ?_
                refine T_let (z_w (Int.tdiv (sr 287 p) 2)) rfl ?_
                refine T_let (z_w ((sr 287 p) - (z_w (Int.tdiv (sr 287 p) 2)))) rfl ?_
                refine T_if1 (by decide +kernel) ?_
                refine T_let 290 (by decide +kernel) ?_
                refine T_if1 (by decide +kernel) ?_
                refine T_getV w_r290 (by omega) rfl ?_
                refine T_let (z_w ((z_w ((sr 287 p) - (z_w (Int.tdiv (sr 287 p) 2)))) - (sr 291 p))) rfl ?_
                refine T_rI ?_
                refine T_ret ⟨sr, ry, Or.inr (Or.inr ⟨⟨h0, h1⟩, ⟨k0, k1⟩, ?_⟩)⟩
                show vI (z_w ((z_w ((sr 287 p) - (z_w (Int.tdiv (sr 287 p) 2)))) - (sr 291 p))) = vI (y_v8 ..)
                unfold y_v8
                rw [if_neg z0, if_neg z1, if_neg z2, if_neg z3, if_neg z4, if_neg z5, if_neg z6]
theorem em_unit {fu : Nat} (hfu : 8589934592 ≤ fu) {s : z_M} (h : y_GY s) {p q : Int} : z_T (fX12_unit fu s 309 p q) (fun v s' => ∃ y, v = vI y ∧ y_AU s s' (0 ≤ p ∧ p < s 309 20) (0 ≤ q ∧ q ≤ 7) y (fun sl => y_v8 q (sl 3220 p) (sl 3221 p) (sl 3222 p) (sl 3445 p) (sl 3441 p) (sl 3442 p) (y_gm sl p) (sl 3444 p))) := by
  refine T_of (fX12_unit.eq_1 ..) ?_
  refine T_if1 v_ob309 ?_
  refine T_upg h.1 bd_309_0 (by decide) (fun s1 c1 g g2 e0 => ?_)
  have h1 := h.z c1 g g2
  refine T_if1 v_ob309 ?_
  have en : s1 309 20 = s 309 20 := g2 20 (by decide)
  have e6 : s1 316 0 = s 316 0 := g 316 0 (by decide)
  have nn := h1.2.2.2.2.2.1.1.1
  have n6 := y_n0 c1
  refine T_bI (T_of (em_isUnit nn) (T_rI ?_))
  rw [en]
  by_cases hp : 0 ≤ p ∧ p < s 309 20
  · rw [if_pos hp]
    refine T_if1 (by decide) ?_
    refine T_of (fX12_unit_J19.eq_1 ..) ?_
    refine T_if1 v_ob309 ?_
    refine T_bI (T_of (em_bad0 e0) (T_rI ?_))
    refine T_if0 (by decide) ?_
    refine T_bI (T_of em_in (T_rI ?_))
    by_cases k : 0 ≤ q ∧ q ≤ 7
    · rw [if_pos k]
      refine T_if1 (by decide) ?_
      refine T_of (fX12_unit_J43.eq_1 ..) ?_
      refine T_if1 v_ob309 ?_
      refine T_bI (T_of (em_bad0 e0) (T_rI ?_))
      refine T_if1 rfl ?_
      refine T_if1 v_ob309 ?_
      refine T_useN (em_lay hfu h1) (fun v sl hq => ?_)
      obtain ⟨rfl, rl⟩ := hq
      refine T_vN ?_
      have rw0 := rl.2.2.2.1.1.1
      have en2 : sl 309 20 = s 309 20 := (rl.k 309 20 (by omega)).trans en
      refine T_ite (fun z0 => ?_) (fun z0 => ?_)
      · refine T_if1 v_ob309 ?_
        refine T_let 3220 v_gm21 ?_
        refine T_if1 (v_x3220 (by omega)) ?_
        refine T_let (sl 3220 p) rfl ?_
        refine T_ret ⟨_, rfl, Or.inr (Or.inr ⟨⟨by omega, by omega⟩, k, (rl.k 309 0 (by omega)).trans e0, sl, rl.m g g2, ?_⟩)⟩
        show sl 3220 p = y_v8 ..
        unfold y_v8
        rw [if_pos z0]
      · refine T_ite (fun z1 => ?_) (fun z1 => ?_)
        · refine T_if1 v_ob309 ?_
          refine T_let 3221 v_gm22 ?_
          refine T_if1 (v_x3221 (by omega)) ?_
          refine T_let (sl 3221 p) rfl ?_
          refine T_ret ⟨_, rfl, Or.inr (Or.inr ⟨⟨by omega, by omega⟩, k, (rl.k 309 0 (by omega)).trans e0, sl, rl.m g g2, ?_⟩)⟩
          show sl 3221 p = y_v8 ..
          unfold y_v8
          rw [if_neg z0, if_pos z1]
        · refine T_ite (fun z2 => ?_) (fun z2 => ?_)
          · refine T_if1 v_ob309 ?_
            refine T_let 3222 v_gm23 ?_
            refine T_if1 (v_x3222 (by omega)) ?_
            refine T_let (sl 3222 p) rfl ?_
            refine T_ret ⟨_, rfl, Or.inr (Or.inr ⟨⟨by omega, by omega⟩, k, (rl.k 309 0 (by omega)).trans e0, sl, rl.m g g2, ?_⟩)⟩
            show sl 3222 p = y_v8 ..
            unfold y_v8
            rw [if_neg z0, if_neg z1, if_pos z2]
          · refine T_ite (fun z3 => ?_) (fun z3 => ?_)
            · refine T_if1 v_ob309 ?_
              refine T_let 3445 v_gm52 ?_
              refine T_if1 (v_x3445 (by omega)) ?_
              refine T_let (sl 3445 p) rfl ?_
              refine T_ret ⟨_, rfl, Or.inr (Or.inr ⟨⟨by omega, by omega⟩, k, (rl.k 309 0 (by omega)).trans e0, sl, rl.m g g2, ?_⟩)⟩
              show sl 3445 p = y_v8 ..
              unfold y_v8
              rw [if_neg z0, if_neg z1, if_neg z2, if_pos z3]
            · refine T_ite (fun z4 => ?_) (fun z4 => ?_)
              · refine T_if1 v_ob309 ?_
                refine T_let 3441 v_gm48 ?_
                refine T_if1 (v_x3441 (by omega)) ?_
                refine T_let (sl 3441 p) rfl ?_
                refine T_ret ⟨_, rfl, Or.inr (Or.inr ⟨⟨by omega, by omega⟩, k, (rl.k 309 0 (by omega)).trans e0, sl, rl.m g g2, ?_⟩)⟩
                show sl 3441 p = y_v8 ..
                unfold y_v8
                rw [if_neg z0, if_neg z1, if_neg z2, if_neg z3, if_pos z4]
              · refine T_ite (fun z5 => ?_) (fun z5 => ?_)
                · refine T_if1 v_ob309 ?_
                  refine T_let 3442 v_gm49 ?_
                  refine T_if1 (v_x3442 (by omega)) ?_
                  refine T_let (sl 3442 p) rfl ?_
                  refine T_ret ⟨_, rfl, Or.inr (Or.inr ⟨⟨by omega, by omega⟩, k, (rl.k 309 0 (by omega)).trans e0, sl, rl.m g g2, ?_⟩)⟩
                  show sl 3442 p = y_v8 ..
                  unfold y_v8
                  rw [if_neg z0, if_neg z1, if_neg z2, if_neg z3, if_neg z4, if_pos z5]
                · refine T_ite (fun z6 => ?_) (fun z6 => ?_)
                  · refine T_if1 v_ob309 ?_
                    refine T_bI (T_of (em_group rw0 (by omega)) (T_rI ?_))
                    refine T_ret ⟨_, rfl, Or.inr (Or.inr ⟨⟨by omega, by omega⟩, k, (rl.k 309 0 (by omega)).trans e0, sl, rl.m g g2, ?_⟩)⟩
                    show y_gm sl p = y_v8 ..
                    unfold y_v8
                    rw [if_neg z0, if_neg z1, if_neg z2, if_neg z3, if_neg z4, if_neg z5, if_pos z6]
                  · refine T_if1 v_ob309 ?_
                    refine T_let 3444 v_gm51 ?_
                    refine T_if1 (v_x3444 (by omega)) ?_
                    refine T_let (sl 3444 p) rfl ?_
                    refine T_ret ⟨_, rfl, Or.inr (Or.inr ⟨⟨by omega, by omega⟩, k, (rl.k 309 0 (by omega)).trans e0, sl, rl.m g g2, ?_⟩)⟩
                    show sl 3444 p = y_v8 ..
                    unfold y_v8
                    rw [if_neg z0, if_neg z1, if_neg z2, if_neg z3, if_neg z4, if_neg z5, if_neg z6]
    · rw [if_neg k]
      refine T_if0 (by decide) ?_
      refine T_of (fX12_unit_J43.eq_1 ..) ?_
      refine T_if1 v_ob309 ?_
      refine T_useI (em_bad1 e0 (by decide) (Or.inr rfl)) (fun v s3 hq => ?_)
      obtain ⟨rfl, q1, _⟩ := hq
      refine T_vI ?_
      refine T_if0 (by decide) ?_
      refine T_of (fX12_unit_J51.eq_1 ..) ?_
      exact T_ret ⟨_, rfl, Or.inr (Or.inl ⟨⟨by omega, by omega⟩, k, q1⟩)⟩
  · rw [if_neg hp]
    refine T_if0 (by decide) ?_
    refine T_of (fX12_unit_J19.eq_1 ..) ?_
    refine T_if1 v_ob309 ?_
    refine T_useI (em_bad1 e0 (by decide) (Or.inl rfl)) (fun v s3 hq => ?_)
    obtain ⟨rfl, q1, _⟩ := hq
    refine T_vI ?_
    refine T_if1 (by decide) ?_
    refine T_of (fX12_unit_J51.eq_1 ..) ?_
    exact T_ret ⟨_, rfl, Or.inl ⟨by omega, q1⟩⟩
theorem em_sign {fu : Nat} (hfu : 8589934592 ≤ fu) {s : z_M} (h : y_GY s) (mo : y_MO s) {p q : Int} : z_T (fX12_sign fu s 309 p q) (fun v s' => ∃ y, v = vI y ∧ y_AU s s' (0 ≤ p ∧ p < s 316 0) (0 ≤ q ∧ q ≤ 6) y (fun sl => y_v8 q (sl 331 p) (sl 3223 p) (sl 3441 (sl 3223 p)) (sl 3443 p) (y_tm sl p) (y_ms sl 0 p) (y_ms sl 1 p) (y_ms sl 1 p))) := by
  refine T_of (fX12_sign.eq_1 ..) ?_
  refine T_if1 v_ob309 ?_
  refine T_upg h.1 bd_309_0 (by decide) (fun s1 c1 g g2 e0 => ?_)
  have h1 := h.z c1 g g2
  refine T_if1 v_ob309 ?_
  have en : s1 309 20 = s 309 20 := g2 20 (by decide)
  have e6 : s1 316 0 = s 316 0 := g 316 0 (by decide)
  have nn := h1.2.2.2.2.2.1.1.1
  have n6 := y_n0 c1
  refine T_let 315 v_gm12 ?_
  refine T_if1 v_gz315.2 ?_
  refine T_let 316 v_gz315.1 ?_
  refine T_if1 (v_x316 (by decide)) ?_
  refine T_let (s 316 0) e6 ?_
  refine T_let (s 316 0 - 1) (v_wid (by omega)) ?_
  refine T_bI (T_of em_in (T_rI ?_))
  by_cases hp : 0 ≤ p ∧ p ≤ s 316 0 - 1
  · rw [if_pos hp]
    refine T_if1 (by decide) ?_
    refine T_of (fX12_sign_J29.eq_1 ..) ?_
    refine T_if1 v_ob309 ?_
    refine T_bI (T_of (em_bad0 e0) (T_rI ?_))
    refine T_if0 (by decide) ?_
    refine T_bI (T_of em_in (T_rI ?_))
    by_cases k : 0 ≤ q ∧ q ≤ 6
    · rw [if_pos k]
      refine T_if1 (by decide) ?_
      refine T_of (fX12_sign_J53.eq_1 ..) ?_
      refine T_if1 v_ob309 ?_
      refine T_bI (T_of (em_bad0 e0) (T_rI ?_))
      refine T_if1 rfl ?_
      refine T_if1 v_ob309 ?_
      refine T_useN (em_lay hfu h1) (fun v sl hq => ?_)
      obtain ⟨rfl, rl⟩ := hq
      refine T_vN ?_
      have rw0 := rl.2.2.2.1.1.1
      have en2 : sl 309 20 = s 309 20 := (rl.k 309 20 (by omega)).trans en
      have e62 : sl 316 0 = s 316 0 := (rl.k 316 0 (by omega)).trans e6
      have hu := rw0.2.2.1 p
      have m9 : y_MO sl := fun i p0 p1 => by
        have k9 : ∀ x y : Int, 316 ≤ x → x ≤ 3223 → sl x y = s x y := fun x y a b => (rl.k x y (by omega)).trans (g x y (by omega))
        have mm := mo i p0 (by omega)
        rw [k9 376 i (by decide) (by decide), k9 346 i (by decide) (by decide), k9 361 i (by decide) (by decide)]
        refine ⟨mm.1, fun z => ?_⟩
        obtain ⟨a9, b9⟩ := mm.2 z
        rw [k9 (407 + s 361 i) 0 (by omega) (by omega)]
        exact ⟨a9, b9⟩
      refine T_ite (fun z0 => ?_) (fun z0 => ?_)
      · refine T_if1 v_ob309 ?_
        refine T_let 330 v_gm13 ?_
        refine T_if1 v_gz330.2 ?_
        refine T_let 331 v_gz330.1 ?_
        refine T_if1 (v_x331 (by omega)) ?_
        refine T_let (sl 331 p) rfl ?_
        refine T_ret ⟨_, rfl, Or.inr (Or.inr ⟨⟨by omega, by omega⟩, k, (rl.k 309 0 (by omega)).trans e0, sl, rl.m g g2, ?_⟩)⟩
        show sl 331 p = y_v8 ..
        unfold y_v8
        rw [if_pos z0]
      · refine T_ite (fun z1 => ?_) (fun z1 => ?_)
        · refine T_if1 v_ob309 ?_
          refine T_let 3223 v_gm24 ?_
          refine T_if1 (v_x3223 (by omega)) ?_
          refine T_let (sl 3223 p) rfl ?_
          refine T_ret ⟨_, rfl, Or.inr (Or.inr ⟨⟨by omega, by omega⟩, k, (rl.k 309 0 (by omega)).trans e0, sl, rl.m g g2, ?_⟩)⟩
          show sl 3223 p = y_v8 ..
          unfold y_v8
          rw [if_neg z0, if_pos z1]
        · refine T_ite (fun z2 => ?_) (fun z2 => ?_)
          · refine T_if1 v_ob309 ?_
            refine T_let 3441 v_gm48 ?_
            refine T_if1 v_ob309 ?_
            refine T_let 3223 v_gm24 ?_
            refine T_if1 (v_x3223 (by omega)) ?_
            refine T_let (sl 3223 p) rfl ?_
            refine T_if1 (v_x3441 (by omega)) ?_
            refine T_let (sl 3441 (sl 3223 p)) rfl ?_
            refine T_ret ⟨_, rfl, Or.inr (Or.inr ⟨⟨by omega, by omega⟩, k, (rl.k 309 0 (by omega)).trans e0, sl, rl.m g g2, ?_⟩)⟩
            show sl 3441 (sl 3223 p) = y_v8 ..
            unfold y_v8
            rw [if_neg z0, if_neg z1, if_pos z2]
          · refine T_ite (fun z3 => ?_) (fun z3 => ?_)
            · refine T_if1 v_ob309 ?_
              refine T_let 3443 v_gm50 ?_
              refine T_if1 (v_x3443 (by omega)) ?_
              refine T_let (sl 3443 p) rfl ?_
              refine T_ret ⟨_, rfl, Or.inr (Or.inr ⟨⟨by omega, by omega⟩, k, (rl.k 309 0 (by omega)).trans e0, sl, rl.m g g2, ?_⟩)⟩
              show sl 3443 p = y_v8 ..
              unfold y_v8
              rw [if_neg z0, if_neg z1, if_neg z2, if_pos z3]
            · refine T_ite (fun z4 => ?_) (fun z4 => ?_)
              · refine T_if1 v_ob309 ?_
                refine T_bI (T_of (em_isTurned (by omega) hu) (T_rI ?_))
                refine T_ite (fun ht => ?_) (fun ht => ?_)
                · refine T_of (fX12_sign_J152.eq_1 ..) ?_
                  refine T_ret ⟨_, rfl, Or.inr (Or.inr ⟨⟨by omega, by omega⟩, k, (rl.k 309 0 (by omega)).trans e0, sl, rl.m g g2, ?_⟩)⟩
                  show 0 = y_v8 ..
                  unfold y_v8
                  rw [if_neg z0, if_neg z1, if_neg z2, if_neg z3, if_pos z4]
                  exact ht.symm
                · refine T_of (fX12_sign_J152.eq_1 ..) ?_
                  refine T_ret ⟨_, rfl, Or.inr (Or.inr ⟨⟨by omega, by omega⟩, k, (rl.k 309 0 (by omega)).trans e0, sl, rl.m g g2, ?_⟩)⟩
                  show 1 = y_v8 ..
                  unfold y_v8
                  rw [if_neg z0, if_neg z1, if_neg z2, if_neg z3, if_pos z4]
                  have w := y_tm_01 (s := sl) (i := p)
                  omega
              · refine T_if1 v_ob309 ?_
                refine T_bI (T_of (e_mmarksOf hfu (by omega) (m9 p (by omega) (by omega)).1 (m9 p (by omega) (by omega)).2) (T_rI ?_))
                refine T_let (z_w (q - 5)) rfl ?_
                refine T_let (z_shr (y_mm sl p) (z_w (q - 5))) rfl ?_
                refine T_let (z_and (z_shr (y_mm sl p) (z_w (q - 5))) 1) rfl ?_
                refine T_ret ⟨_, rfl, Or.inr (Or.inr ⟨⟨by omega, by omega⟩, k, (rl.k 309 0 (by omega)).trans e0, sl, rl.m g g2, ?_⟩)⟩
                show z_and (z_shr (y_mm sl p) (z_w (q - 5))) 1 = y_v8 ..
                unfold y_v8
                rw [if_neg z0, if_neg z1, if_neg z2, if_neg z3, if_neg z4]
                by_cases z5 : q = 5
                · rw [if_pos z5, z5, show z_w ((5 : Int) - 5) = 0 by decide +kernel]
                  rfl
                · rw [if_neg z5, if_pos (show q = 6 by omega), show q = 6 by omega, show z_w ((6 : Int) - 5) = 1 by decide +kernel]
                  rfl
    · rw [if_neg k]
      refine T_if0 (by decide) ?_
      refine T_of (fX12_sign_J53.eq_1 ..) ?_
      refine T_if1 v_ob309 ?_
      refine T_useI (em_bad1 e0 (by decide) (Or.inr rfl)) (fun v s3 hq => ?_)
      obtain ⟨rfl, q1, _⟩ := hq
      refine T_vI ?_
      refine T_if0 (by decide) ?_
      refine T_of (fX12_sign_J61.eq_1 ..) ?_
      exact T_ret ⟨_, rfl, Or.inr (Or.inl ⟨⟨by omega, by omega⟩, k, q1⟩)⟩
  · rw [if_neg hp]
    refine T_if0 (by decide) ?_
    refine T_of (fX12_sign_J29.eq_1 ..) ?_
    refine T_if1 v_ob309 ?_
    refine T_useI (em_bad1 e0 (by decide) (Or.inl rfl)) (fun v s3 hq => ?_)
    obtain ⟨rfl, q1, _⟩ := hq
    refine T_vI ?_
    refine T_if1 (by decide) ?_
    refine T_of (fX12_sign_J61.eq_1 ..) ?_
    exact T_ret ⟨_, rfl, Or.inl ⟨by omega, q1⟩⟩
theorem em_line {fu : Nat} (hfu : 8589934592 ≤ fu) {s : z_M} (h : y_GY s) {p q : Int} : z_T (fX12_line fu s 309 p q) (fun v s' => ∃ y, v = vI y ∧ y_AY s s' (fun sl => 0 ≤ p ∧ p < sl 309 44) (0 ≤ q ∧ q ≤ 7) y (fun sl => y_v8 q (sl 3438 p) (z_w (sl 3438 (p + 1) - sl 3438 p)) (sl 3446 p) (z_w (sl 312 0 - sl 3446 p)) (sl 3447 p) (sl 3448 p) (sl 3449 p) (sl 3450 p))) := by
  refine T_of (fX12_line.eq_1 ..) ?_
  refine T_if1 v_ob309 ?_
  refine T_upg h.1 bd_309_0 (by decide) (fun s1 c1 g g2 e0 => ?_)
  have h1 := h.z c1 g g2
  refine T_if1 v_ob309 ?_
  refine T_useN (em_lay hfu h1) (fun v sl hq => ?_)
  obtain ⟨rfl, rl⟩ := hq
  refine T_vN ?_
  have rm := rl.m g g2
  have e1 : sl 309 0 = 0 := (rl.k 309 0 (by omega)).trans e0
  have nn := CI_b rl.1 (k := 309) (j := 44) bd_309_44
  refine T_if1 v_ob309 ?_
  refine T_let (sl 309 44) rfl ?_
  refine T_let (sl 309 44 - 1) (v_wid (by omega)) ?_
  refine T_bI (T_of em_in (T_rI ?_))
  by_cases hp : 0 ≤ p ∧ p ≤ sl 309 44 - 1
  · rw [if_pos hp]
    refine T_if1 (by decide) ?_
    refine T_of (fX12_line_J29.eq_1 ..) ?_
    refine T_if1 v_ob309 ?_
    refine T_bI (T_of (em_bad0 e1) (T_rI ?_))
    refine T_if0 (by decide) ?_
    refine T_bI (T_of em_in (T_rI ?_))
    by_cases k : 0 ≤ q ∧ q ≤ 7
    · rw [if_pos k]
      refine T_if1 (by decide) ?_
      refine T_of (fX12_line_J53.eq_1 ..) ?_
      refine T_if1 v_ob309 ?_
      refine T_bI (T_of (em_bad0 e1) (T_rI ?_))
      refine T_if1 rfl ?_
      refine T_ite (fun z0 => ?_) (fun z0 => ?_)
      · refine T_if1 v_ob309 ?_
        refine T_let 3438 v_gm45 ?_
        refine T_if1 (v_x3438 (by omega)) ?_
        refine T_let (sl 3438 p) rfl ?_
        refine T_ret ⟨_, rfl, sl, rm, Or.inr (Or.inr ⟨⟨by omega, by omega⟩, k, e1, ?_⟩)⟩
        show sl 3438 p = y_v8 ..
        unfold y_v8
        rw [if_pos z0]
      · refine T_ite (fun z1 => ?_) (fun z1 => ?_)
        · refine T_if1 v_ob309 ?_
          refine T_let 3438 v_gm45 ?_
          refine T_let (p + 1) (v_wid (by omega)) ?_
          refine T_if1 (v_x3438 (by omega)) ?_
          refine T_let (sl 3438 (p + 1)) rfl ?_
          refine T_if1 v_ob309 ?_
          refine T_let 3438 v_gm45 ?_
          refine T_if1 (v_x3438 (by omega)) ?_
          refine T_let (sl 3438 p) rfl ?_
          refine T_let (z_w ((sl 3438 (p + 1)) - (sl 3438 p))) rfl ?_
          refine T_ret ⟨_, rfl, sl, rm, Or.inr (Or.inr ⟨⟨by omega, by omega⟩, k, e1, ?_⟩)⟩
          show z_w ((sl 3438 (p + 1)) - (sl 3438 p)) = y_v8 ..
          unfold y_v8
          rw [if_neg z0, if_pos z1]
        · refine T_ite (fun z2 => ?_) (fun z2 => ?_)
          · refine T_if1 v_ob309 ?_
            refine T_let 3446 v_gm53 ?_
            refine T_if1 (v_x3446 (by omega)) ?_
            refine T_let (sl 3446 p) rfl ?_
            refine T_ret ⟨_, rfl, sl, rm, Or.inr (Or.inr ⟨⟨by omega, by omega⟩, k, e1, ?_⟩)⟩
            show sl 3446 p = y_v8 ..
            unfold y_v8
            rw [if_neg z0, if_neg z1, if_pos z2]
          · refine T_ite (fun z3 => ?_) (fun z3 => ?_)
            · refine T_if1 v_ob309 ?_
              refine T_let 312 v_gm9 ?_
              refine T_if1 (v_x312 (by omega)) ?_
              refine T_let (sl 312 0) rfl ?_
              refine T_if1 v_ob309 ?_
              refine T_let 3446 v_gm53 ?_
              refine T_if1 (v_x3446 (by omega)) ?_
              refine T_let (sl 3446 p) rfl ?_
              refine T_let (z_w ((sl 312 0) - (sl 3446 p))) rfl ?_
              refine T_ret ⟨_, rfl, sl, rm, Or.inr (Or.inr ⟨⟨by omega, by omega⟩, k, e1, ?_⟩)⟩
              show z_w ((sl 312 0) - (sl 3446 p)) = y_v8 ..
              unfold y_v8
              rw [if_neg z0, if_neg z1, if_neg z2, if_pos z3]
            · refine T_ite (fun z4 => ?_) (fun z4 => ?_)
              · refine T_if1 v_ob309 ?_
                refine T_let 3447 v_gm54 ?_
                refine T_if1 (v_x3447 (by omega)) ?_
                refine T_let (sl 3447 p) rfl ?_
                refine T_ret ⟨_, rfl, sl, rm, Or.inr (Or.inr ⟨⟨by omega, by omega⟩, k, e1, ?_⟩)⟩
                show sl 3447 p = y_v8 ..
                unfold y_v8
                rw [if_neg z0, if_neg z1, if_neg z2, if_neg z3, if_pos z4]
              · refine T_ite (fun z5 => ?_) (fun z5 => ?_)
                · refine T_if1 v_ob309 ?_
                  refine T_let 3448 v_gm55 ?_
                  refine T_if1 (v_x3448 (by omega)) ?_
                  refine T_let (sl 3448 p) rfl ?_
                  refine T_ret ⟨_, rfl, sl, rm, Or.inr (Or.inr ⟨⟨by omega, by omega⟩, k, e1, ?_⟩)⟩
                  show sl 3448 p = y_v8 ..
                  unfold y_v8
                  rw [if_neg z0, if_neg z1, if_neg z2, if_neg z3, if_neg z4, if_pos z5]
                · refine T_ite (fun z6 => ?_) (fun z6 => ?_)
                  · refine T_if1 v_ob309 ?_
                    refine T_let 3449 v_gm56 ?_
                    refine T_if1 (v_x3449 (by omega)) ?_
                    refine T_let (sl 3449 p) rfl ?_
                    refine T_ret ⟨_, rfl, sl, rm, Or.inr (Or.inr ⟨⟨by omega, by omega⟩, k, e1, ?_⟩)⟩
                    show sl 3449 p = y_v8 ..
                    unfold y_v8
                    rw [if_neg z0, if_neg z1, if_neg z2, if_neg z3, if_neg z4, if_neg z5, if_pos z6]
                  · refine T_if1 v_ob309 ?_
                    refine T_let 3450 v_gm57 ?_
                    refine T_if1 (v_x3450 (by omega)) ?_
                    refine T_let (sl 3450 p) rfl ?_
                    refine T_ret ⟨_, rfl, sl, rm, Or.inr (Or.inr ⟨⟨by omega, by omega⟩, k, e1, ?_⟩)⟩
                    show sl 3450 p = y_v8 ..
                    unfold y_v8
                    rw [if_neg z0, if_neg z1, if_neg z2, if_neg z3, if_neg z4, if_neg z5, if_neg z6]
    · rw [if_neg k]
      refine T_if0 (by decide) ?_
      refine T_of (fX12_line_J53.eq_1 ..) ?_
      refine T_if1 v_ob309 ?_
      refine T_useI (em_bad1 e1 (by decide) (Or.inr rfl)) (fun v s3 hq => ?_)
      obtain ⟨rfl, q1, _⟩ := hq
      refine T_vI ?_
      refine T_if0 (by decide) ?_
      refine T_of (fX12_line_J61.eq_1 ..) ?_
      exact T_ret ⟨_, rfl, sl, rm, Or.inr (Or.inl ⟨⟨by omega, by omega⟩, k, q1⟩)⟩
  · rw [if_neg hp]
    refine T_if0 (by decide) ?_
    refine T_of (fX12_line_J29.eq_1 ..) ?_
    refine T_if1 v_ob309 ?_
    refine T_useI (em_bad1 e1 (by decide) (Or.inl rfl)) (fun v s3 hq => ?_)
    obtain ⟨rfl, q1, _⟩ := hq
    refine T_vI ?_
    refine T_if1 (by decide) ?_
    refine T_of (fX12_line_J61.eq_1 ..) ?_
    exact T_ret ⟨_, rfl, sl, rm, Or.inl ⟨by omega, q1⟩⟩
theorem em_block {fu : Nat} (hfu : 8589934592 ≤ fu) {s : z_M} (h : y_GY s) {p q : Int} : z_T (fX12_block fu s 309 p q) (fun v s' => ∃ y, v = vI y ∧ y_AY s s' (fun sl => 0 ≤ p ∧ p < sl 309 58) (0 ≤ q ∧ q ≤ 7) y (fun sl => sl (3452 + p) q)) := by
  refine T_of (fX12_block.eq_1 ..) ?_
  refine T_if1 v_ob309 ?_
  refine T_upg h.1 bd_309_0 (by decide) (fun s1 c1 g g2 e0 => ?_)
  have h1 := h.z c1 g g2
  refine T_if1 v_ob309 ?_
  refine T_useN (em_lay hfu h1) (fun v sl hq => ?_)
  obtain ⟨rfl, rl⟩ := hq
  refine T_vN ?_
  have rm := rl.m g g2
  have e1 : sl 309 0 = 0 := (rl.k 309 0 (by omega)).trans e0
  have nn := CI_b rl.1 (k := 309) (j := 58) bd_309_58
  refine T_if1 v_ob309 ?_
  refine T_let (sl 309 58) rfl ?_
  refine T_let (sl 309 58 - 1) (v_wid (by omega)) ?_
  refine T_bI (T_of em_in (T_rI ?_))
  by_cases hp : 0 ≤ p ∧ p ≤ sl 309 58 - 1
  · rw [if_pos hp]
    refine T_if1 (by decide) ?_
    refine T_of (fX12_block_J29.eq_1 ..) ?_
    refine T_if1 v_ob309 ?_
    refine T_bI (T_of (em_bad0 e1) (T_rI ?_))
    refine T_if0 (by decide) ?_
    refine T_bI (T_of em_in (T_rI ?_))
    by_cases k : 0 ≤ q ∧ q ≤ 7
    · rw [if_pos k]
      refine T_if1 (by decide) ?_
      refine T_of (fX12_block_J53.eq_1 ..) ?_
      refine T_if1 v_ob309 ?_
      refine T_bI (T_of (em_bad0 e1) (T_rI ?_))
      refine T_if1 rfl ?_
      refine T_if1 v_ob309 ?_
      refine T_let 3451 v_gm59 ?_
      refine T_if1 (v_x3451 (by omega)) ?_
      refine T_let (3452 + p) (gr_3451 _) ?_
      refine T_if1 (v_xb (by omega) (by omega)) ?_
      refine T_let (sl (3452 + p) q) rfl ?_
      refine T_ret ⟨_, rfl, sl, rm, Or.inr (Or.inr ⟨⟨by omega, by omega⟩, k, e1, ?_⟩)⟩
      show _ = sl (3452 + p) q
      rfl
    · rw [if_neg k]
      refine T_if0 (by decide) ?_
      refine T_of (fX12_block_J53.eq_1 ..) ?_
      refine T_if1 v_ob309 ?_
      refine T_useI (em_bad1 e1 (by decide) (Or.inr rfl)) (fun v s3 hq => ?_)
      obtain ⟨rfl, q1, _⟩ := hq
      refine T_vI ?_
      refine T_if0 (by decide) ?_
      refine T_of (fX12_block_J61.eq_1 ..) ?_
      exact T_ret ⟨_, rfl, sl, rm, Or.inr (Or.inl ⟨⟨by omega, by omega⟩, k, q1⟩)⟩
  · rw [if_neg hp]
    refine T_if0 (by decide) ?_
    refine T_of (fX12_block_J29.eq_1 ..) ?_
    refine T_if1 v_ob309 ?_
    refine T_useI (em_bad1 e1 (by decide) (Or.inl rfl)) (fun v s3 hq => ?_)
    obtain ⟨rfl, q1, _⟩ := hq
    refine T_vI ?_
    refine T_if1 (by decide) ?_
    refine T_of (fX12_block_J61.eq_1 ..) ?_
    exact T_ret ⟨_, rfl, sl, rm, Or.inl ⟨by omega, q1⟩⟩
