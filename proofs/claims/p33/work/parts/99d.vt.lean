/-! told: what is told of all -/
def y_t20 (q x0 x1 x2 x3 x4 x5 x6 x7 x8 x9 x10 x11 x12 x13 x14 x15 x16 x17 x18 x19 : Int) : Int := if q = 0 then x0 else if q = 1 then x1 else if q = 2 then x2 else if q = 3 then x3 else if q = 4 then x4 else if q = 5 then x5 else if q = 6 then x6 else if q = 7 then x7 else if q = 8 then x8 else if q = 9 then x9 else if q = 10 then x10 else if q = 11 then x11 else if q = 12 then x12 else if q = 13 then x13 else if q = 14 then x14 else if q = 15 then x15 else if q = 16 then x16 else if q = 17 then x17 else if q = 18 then x18 else x19
theorem y_t20_cg {q x0 x1 x2 x3 x4 x5 x6 x7 x8 x9 x10 x11 x12 x13 x14 x15 x16 x17 x18 x19 z0 z1 z2 z3 z4 z5 z6 z7 z8 z9 z10 z11 z12 z13 z14 z15 z16 z17 z18 z19 : Int} (e0 : x0 = z0) (e1 : x1 = z1) (e2 : x2 = z2) (e3 : x3 = z3) (e4 : x4 = z4) (e5 : x5 = z5) (e6 : x6 = z6) (e7 : x7 = z7) (e8 : x8 = z8) (e9 : x9 = z9) (e10 : x10 = z10) (e11 : x11 = z11) (e12 : x12 = z12) (e13 : x13 = z13) (e14 : x14 = z14) (e15 : x15 = z15) (e16 : x16 = z16) (e17 : x17 = z17) (e18 : x18 = z18) (e19 : x19 = z19) : y_t20 q x0 x1 x2 x3 x4 x5 x6 x7 x8 x9 x10 x11 x12 x13 x14 x15 x16 x17 x18 x19 = y_t20 q z0 z1 z2 z3 z4 z5 z6 z7 z8 z9 z10 z11 z12 z13 z14 z15 z16 z17 z18 z19 := by rw [e0, e1, e2, e3, e4, e5, e6, e7, e8, e9, e10, e11, e12, e13, e14, e15, e16, e17, e18, e19]
/-- the greatest; how many exceed -/
def y_mx (f : Int → Int) : Nat → Int
  | 0 => 0
  | k + 1 => z_max (y_mx f k) (f k)
def y_xn (f : Int → Int) (L : Int) : Nat → Int
  | 0 => 0
  | k + 1 => y_xn f L k + (if f k ≤ L then 0 else 1)
theorem y_mx_s {f : Int → Int} {k : Nat} : y_mx f (k + 1) = z_max (y_mx f k) (f k) := rfl
theorem y_xn_s {f : Int → Int} {L : Int} {k : Nat} : y_xn f L (k + 1) = y_xn f L k + (if f k ≤ L then 0 else 1) := rfl
theorem y_mx_cg {f g : Int → Int} : ∀ n : Nat, (∀ i : Int, 0 ≤ i → i < n → f i = g i) → y_mx f n = y_mx g n := by
  intro n
  induction n with
  | zero => intro _; rfl
  | succ n ih => intro h; rw [y_mx_s, y_mx_s, ih (fun i p q => h i p (by omega)), h n (by omega) (by omega)]
theorem y_xn_cg {f g : Int → Int} {L : Int} : ∀ n : Nat, (∀ i : Int, 0 ≤ i → i < n → f i = g i) → y_xn f L n = y_xn g L n := by
  intro n
  induction n with
  | zero => intro _; rfl
  | succ n ih => intro h; rw [y_xn_s, y_xn_s, ih (fun i p q => h i p (by omega)), h n (by omega) (by omega)]
theorem y_xn_b {f : Int → Int} {L : Int} : ∀ n : Nat, 0 ≤ y_xn f L n ∧ y_xn f L n ≤ n := by
  intro n
  induction n with
  | zero => exact ⟨Int.le_refl _, Int.le_refl _⟩
  | succ n ih => rw [y_xn_s]; split <;> omega
theorem e_longestL {fu : Nat} {s : z_M} {c : Nat} (hc : s 240 6 = c) (h2 : (c : Int) ≤ 200) {k : z_M → Int → z_O} {P : z_V → z_M → Prop} (hk : z_T (k s (y_mx (s 270) c)) P) : ∀ (m F j : Nat), j + m = c → m < F → z_T (fX3_longest_L4 fu 258 F s (y_mx (s 270) j) (j : Int) k) P := by
  intro m
  induction m with
  | zero =>
    intro F j h1 hF
    obtain ⟨F, rfl⟩ : ∃ F2, F = F2 + 1 := ⟨F - 1, by omega⟩
    have ej : j = c := by omega
    subst ej
    refine T_of (fX3_longest_L4.eq_2 ..) ?_
    refine T_if1 (by decide +kernel) ?_
    refine T_let 240 (by decide +kernel) ?_
    refine T_if1 (by decide +kernel) ?_
    refine T_let (j : Int) hc ?_
    refine T_if1 (Int.le_refl _) ?_
    exact hk
  | succ m ih =>
    intro F j h1 hF
    obtain ⟨F, rfl⟩ : ∃ F2, F = F2 + 1 := ⟨F - 1, by omega⟩
    refine T_of (fX3_longest_L4.eq_2 ..) ?_
    refine T_if1 (by decide +kernel) ?_
    refine T_let 240 (by decide +kernel) ?_
    refine T_if1 (by decide +kernel) ?_
    refine T_let (c : Int) hc ?_
    refine T_if0 (by omega) ?_
    refine T_if1 (by decide +kernel) ?_
    refine T_let 269 (by decide +kernel) ?_
    refine T_if1 (by decide +kernel) ?_
    refine T_getV w_r269 (by omega) rfl ?_
    refine T_let (z_max (y_mx (s 270) j) (s 270 (j : Int))) rfl ?_
    refine T_let ((j : Int) + 1) (v_wid (by omega)) ?_
    exact ih F (j + 1) (by omega) (by omega)
theorem e_longest {fu : Nat} (hfu : 8589934592 ≤ fu) {s : z_M} {c : Nat} (hc : s 240 6 = c) (h2 : (c : Int) ≤ 200) : z_T (fX3_longest fu s 258) (fun v s' => v = vI (y_mx (s 270) c) ∧ s' = s) := by
  refine T_of (fX3_longest.eq_1 ..) ?_
  exact e_longestL hc h2 (T_ret ⟨rfl, rfl⟩) c fu 0 (by omega) (by omega)
/-- how many lines are too long -/
theorem e_tooLongXL {fu : Nat} (hfu : 8589934592 ≤ fu) {D : z_M} {E : Int → Int} {s0 : z_M} {len n : Int} {nx : Int → Int} {c : Nat} {k : z_M → Int → z_O} {P : z_V → z_M → Prop} (cm0 : y_CM D E s0 s0) (en : s0 191 16 = n) (ls : y_LS2 240 s0 n nx c)
    (hk : ∀ s' : z_M, z_T (k s' (y_xn (fun l => y_LG D (s0 (240 + 8) l) (s0 (240 + 8) (l + 1) - 1) (s0 3 2)) len c)) P) :
    ∀ (m F j : Nat) (s : z_M), j + m = c → m < F → y_CM D E s0 s → z_T (fX1_tooLong_L4 fu 240 len F s (y_xn (fun l => y_LG D (s0 (240 + 8) l) (s0 (240 + 8) (l + 1) - 1) (s0 3 2)) len j) (j : Int) k) P := by
  have ho : y_ob4 240 := Or.inl rfl
  have br := v_br ho
  have hn := cm0.1.1
  have c200 : (c : Int) ≤ 200 := by have := ls.2.1; omega
  intro m
  induction m with
  | zero =>
    intro F j s h1 hF cm
    obtain ⟨F, rfl⟩ : ∃ F2, F = F2 + 1 := ⟨F - 1, by omega⟩
    have e6 : s 240 6 = c := (cm.2.2.2.2.2 _ _ (by omega) (by omega)).trans ls.1
    have ej : j = c := by omega
    subst ej
    refine T_of (fX1_tooLong_L4.eq_2 ..) ?_
    refine T_if1 br.1 ?_
    refine T_let (j : Int) e6 ?_
    refine T_if1 (Int.le_refl _) ?_
    exact hk s
  | succ m ih =>
    intro F j s h1 hF cm
    obtain ⟨F, rfl⟩ : ∃ F2, F = F2 + 1 := ⟨F - 1, by omega⟩
    have e6 : s 240 6 = c := (cm.2.2.2.2.2 _ _ (by omega) (by omega)).trans ls.1
    have w := ls.at (i := (j : Int)) (by omega) (by omega)
    have b1 := y_xn_b (f := fun l => y_LG D (s0 (240 + 8) l) (s0 (240 + 8) (l + 1) - 1) (s0 3 2)) (L := len) j
    refine T_of (fX1_tooLong_L4.eq_2 ..) ?_
    refine T_if1 br.1 ?_
    refine T_let (c : Int) e6 ?_
    refine T_if0 (show ¬ (c : Int) ≤ (j : Int) by omega) ?_
    refine T_if1 br.1 ?_
    refine T_useI (e_longOfLine hfu ho cm (i := (j : Int)) ⟨by omega, by omega⟩ w.1 (by rw [en]; exact w.2) hn.2) (fun v s1 hq => ?_)
    obtain ⟨rfl, cm1⟩ := hq
    refine T_vI ?_
    have fin : ∀ z : Int, z = (if y_LG D (s0 (240 + 8) j) (s0 (240 + 8) ((j : Int) + 1) - 1) (s0 3 2) ≤ len then 0 else 1) → z_T (fX1_tooLong_J27 fu s1 240 len (j : Int) (y_xn (fun l => y_LG D (s0 (240 + 8) l) (s0 (240 + 8) (l + 1) - 1) (s0 3 2)) len j) z (fun w v2 v3 => fX1_tooLong_L4 fu 240 len F w v2 v3 k) k) P := fun z e => by
      have z01 : z = 0 ∨ z = 1 := by rw [e]; split <;> decide
      refine T_of (fX1_tooLong_J27.eq_1 ..) ?_
      refine T_let (y_xn (fun l => y_LG D (s0 (240 + 8) l) (s0 (240 + 8) (l + 1) - 1) (s0 3 2)) len (j + 1)) (by rw [y_xn_s, ← e]; exact v_wid (by omega)) ?_
      refine T_let (((j + 1 : Nat)) : Int) (by rw [v_wid (by omega)]; omega) ?_
      exact ih F (j + 1) s1 (by omega) (by omega) cm1
    refine T_ite (fun q => fin 0 ?_) (fun q => fin 1 ?_)
    · rw [if_pos q]
    · rw [if_neg q]
theorem e_tooLongX {fu : Nat} (hfu : 8589934592 ≤ fu) {D : z_M} {E : Int → Int} {s : z_M} {len n : Int} {nx : Int → Int} {c : Nat} (cm : y_CM D E s s) (en : s 191 16 = n) (ls : y_LS2 240 s n nx c) :
    z_T (fX1_tooLong fu s 240 len) (fun v s' => v = vI (y_xn (fun l => y_LG D (s (240 + 8) l) (s (240 + 8) (l + 1) - 1) (s 3 2)) len c)) := by
  have hn := cm.1.1
  have c1 := ls.2.1
  refine T_of (fX1_tooLong.eq_1 ..) ?_
  exact e_tooLongXL hfu cm en ls (fun s' => T_ret rfl) c fu 0 s (by omega) (by omega) cm
/-- answers of told -/
def y_QL (s : z_M) (v : z_V) (ok : Prop) (F : z_M → Int) : Prop := (¬ ok ∧ v = vX 1) ∨ (ok ∧ ∃ sr, y_RY s sr ∧ v = vL (F sr))
def y_AL (s s' : z_M) (ok : Prop) (y : Int) (G : z_M → Int) : Prop := (¬ ok ∧ s' 309 0 = 1) ∨ (ok ∧ s' 309 0 = 0 ∧ ∃ sl, y_RM s sl ∧ y = G sl)
def y_VXl (e0 e1 : Int) (s' : z_M) (v0 : z_V) (x : Int) : Prop := (v0 = vX 0 ∧ x = e0) ∨ (v0 = vX 1 ∧ x = e1) ∨ ∃ z, v0 = vL z ∧ x = 0 ∧ s' 7658 0 = z
theorem y_XL {i z : Int} (h : vX i = vL z) : False := by
  have e := congrArg Prod.fst h
  exact absurd (show (6 : Nat) = 1 from e) (by decide)
theorem y_JL {s s1 s2 : z_M} {v0 : z_V} {ok : Prop} {F G : z_M → Int} {x y : Int} (q : y_QL s v0 ok F) (vx : y_VXl 0 1 s1 v0 x) (a : y_AL s1 s2 ok y G) (o : s2 7658 0 = s1 7658 0) (e : ∀ sr sl, ok → y_RY s sr → y_RM s1 sl → F sr = G sl) : s2 309 0 = x ∧ (x = 0 → s2 7658 0 = y) := by
  rcases q with ⟨n, rfl⟩ | ⟨k, sr, ry, rfl⟩
  · rcases a with ⟨_, a⟩ | ⟨k, _⟩
    · rcases vx with ⟨w, _⟩ | ⟨_, rfl⟩ | ⟨w, hw, _⟩
      · exact (y_X01 w.symm).elim
      · exact ⟨a, fun q => absurd q (by decide)⟩
      · exact (y_XL hw).elim
    · exact absurd k n
  · rcases a with ⟨n, _⟩ | ⟨_, a, sl, rl, rfl⟩
    · exact absurd k n
    · rcases vx with ⟨w, _⟩ | ⟨w, _⟩ | ⟨w, hw, hx, ho⟩
      · exact (y_XL w.symm).elim
      · exact (y_XL w.symm).elim
      · have e2 : F sr = w := congrArg Prod.snd hw
        exact ⟨a.trans hx.symm, fun _ => by rw [o, ho, ← e2]; exact e sr sl k ry rl⟩
theorem e_ctold {fu : Nat} (hfu : 8589934592 ≤ fu) {s : z_M} (c : z_CI s) (h : y_V3 s) (hy : y_Y4 s) (hk : ∀ sr, y_RF s sr → y_OKc sr) {q : Int} : z_T (fX11_told fu s 1 q) (fun v _ => y_QL s v (0 ≤ q ∧ q ≤ 19) (fun sr => y_t20 q (sr 191 16) (sr 6 6) (sr 6 7) (sr 240 6) (y_mx (sr 270) (sr 240 6).toNat) (y_cs (y_co (fun x y => y_LG (y_dc sr) x y (sr 3 2)) (sr 3 0) (sr 191 16)) (sr 248) (sr 240 6).toNat) (sr 3 0) (sr 3 1) (sr 3 2) (sr 3 3) (sr 3 4) (sr 3 5) (sr 3 6) (sr 33 2) (sr 1 12) (y_xn (fun l => y_LG (y_dc sr) (sr 248 l) (sr 248 (l + 1) - 1) (sr 3 2)) (sr 3 0) (sr 240 6).toNat) (sr 3 7) (sr 3 8) (sr 191 17) (sr 191 18))) := by
  refine T_of (fX11_told.eq_1 ..) ?_
  refine T_if1 v_ob1 ?_
  refine T_nwn (fun n => T_ret (Or.inl ⟨n, rfl⟩)) (fun k0 k1 => ?_)
  refine T_if1 v_ob1 ?_
  refine T_useN (e_freshY hfu c h hy) (fun v sr hq => ?_)
  obtain ⟨rfl, ry⟩ := hq
  refine T_vN ?_
  have rf := ry.1
  have hn := CI_b rf.1 (k := 191) (j := 16) bd_191_16q
  have ok := hk sr rf
  obtain ⟨nx, cc, ⟨hx, hc, h6, hr⟩, _⟩ := ry.2.2.2 ok
  have cm := ok.CM (ry.2.1.2 ok)
  have ls : y_LS2 240 sr (sr 191 16) nx cc := ⟨h6, hc, by rw [show (240 + 8 : Int) = 248 by decide]; exact hr, hx.b⟩
  have e6 : (sr 240 6).toNat = cc := by omega
  have hl := ok.2.2.2.2.2.1
  refine T_ite (fun z0 => ?_) (fun z0 => ?_)
  · refine T_if1 v_ob1 ?_
    refine T_let 191 (by decide +kernel) ?_
    refine T_if1 v_ob191 ?_
    refine T_let (sr 191 16) rfl ?_
    refine T_ret (Or.inr ⟨⟨k0, k1⟩, sr, ry, ?_⟩)
    show vL (sr 191 16) = vL (y_t20 ..)
    unfold y_t20
    rw [if_pos z0]
  · refine T_ite (fun z1 => ?_) (fun z1 => ?_)
    · refine T_if1 v_ob1 ?_
      refine T_let 6 (by decide +kernel) ?_
      refine T_if1 (by decide +kernel) ?_
      refine T_let (sr 6 6) rfl ?_
      refine T_ret (Or.inr ⟨⟨k0, k1⟩, sr, ry, ?_⟩)
      show vL (sr 6 6) = vL (y_t20 ..)
      unfold y_t20
      rw [if_neg z0, if_pos z1]
    · refine T_ite (fun z2 => ?_) (fun z2 => ?_)
      · refine T_if1 v_ob1 ?_
        refine T_let 6 (by decide +kernel) ?_
        refine T_if1 (by decide +kernel) ?_
        refine T_let (sr 6 7) rfl ?_
        refine T_ret (Or.inr ⟨⟨k0, k1⟩, sr, ry, ?_⟩)
        show vL (sr 6 7) = vL (y_t20 ..)
        unfold y_t20
        rw [if_neg z0, if_neg z1, if_pos z2]
      · refine T_ite (fun z3 => ?_) (fun z3 => ?_)
        · refine T_if1 v_ob1 ?_
          refine T_let 240 (by decide +kernel) ?_
          refine T_if1 (by decide +kernel) ?_
          refine T_let (sr 240 6) rfl ?_
          refine T_ret (Or.inr ⟨⟨k0, k1⟩, sr, ry, ?_⟩)
          show vL (sr 240 6) = vL (y_t20 ..)
          unfold y_t20
          rw [if_neg z0, if_neg z1, if_neg z2, if_pos z3]
        · refine T_ite (fun z4 => ?_) (fun z4 => ?_)
          · refine T_if1 v_ob1 ?_
            refine T_let 258 (by decide +kernel) ?_
            refine T_if1 (by decide +kernel) ?_
            refine T_useI (e_longest hfu h6 (by omega)) (fun v sx hq => ?_)
            obtain ⟨rfl, e9⟩ := hq
            have e8 := e9.symm
            subst e8
            refine T_vI ?_
            refine T_ret (Or.inr ⟨⟨k0, k1⟩, sr, ry, ?_⟩)
            rw [← e6]
            show vL (y_mx (sr 270) (sr 240 6).toNat) = vL (y_t20 ..)
            unfold y_t20
            rw [if_neg z0, if_neg z1, if_neg z2, if_neg z3, if_pos z4]
          · refine T_ite (fun z5 => ?_) (fun z5 => ?_)
            · refine T_if1 v_ob1 ?_
              refine T_let 240 (by decide +kernel) ?_
              refine T_if1 v_ob1 ?_
              refine T_let 2 (by decide +kernel) ?_
              refine T_if1 (by decide +kernel) ?_
              refine T_getV w_r2 (by omega) rfl ?_
              refine T_if1 (by decide +kernel) ?_
              refine T_useL (e_costs hfu (Or.inl rfl) cm rfl (by omega) ls) (fun v sx hq => ?_)
              obtain ⟨rfl, _⟩ := hq
              refine T_vL ?_
              refine T_ret (Or.inr ⟨⟨k0, k1⟩, sr, ry, ?_⟩)
              show vL (y_cs (y_co (fun x y => y_LG (y_dc sr) x y (sr 3 2)) (sr 3 0) (sr 191 16)) (sr 248) cc) = vL (y_t20 ..)
              unfold y_t20
              rw [if_neg z0, if_neg z1, if_neg z2, if_neg z3, if_neg z4, if_pos z5, e6]
            · refine T_ite (fun z6 => ?_) (fun z6 => ?_)
              · refine T_if1 v_ob1 ?_
                refine T_let 2 (by decide +kernel) ?_
                refine T_let 0 (by rw [z6]; decide +kernel) ?_
                refine T_if1 (by decide +kernel) ?_
                refine T_getV w_r2 (by omega) rfl ?_
                refine T_ret (Or.inr ⟨⟨k0, k1⟩, sr, ry, ?_⟩)
                show vL (sr 3 0) = vL (y_t20 ..)
                unfold y_t20
                rw [if_neg z0, if_neg z1, if_neg z2, if_neg z3, if_neg z4, if_neg z5, if_pos z6]
              · refine T_ite (fun z7 => ?_) (fun z7 => ?_)
                · refine T_if1 v_ob1 ?_
                  refine T_let 2 (by decide +kernel) ?_
                  refine T_let 1 (by rw [z7]; decide +kernel) ?_
                  refine T_if1 (by decide +kernel) ?_
                  refine T_getV w_r2 (by omega) rfl ?_
                  refine T_ret (Or.inr ⟨⟨k0, k1⟩, sr, ry, ?_⟩)
                  show vL (sr 3 1) = vL (y_t20 ..)
                  unfold y_t20
                  rw [if_neg z0, if_neg z1, if_neg z2, if_neg z3, if_neg z4, if_neg z5, if_neg z6, if_pos z7]
                · refine T_ite (fun z8 => ?_) (fun z8 => ?_)
                  · refine T_if1 v_ob1 ?_
                    refine T_let 2 (by decide +kernel) ?_
                    refine T_let 2 (by rw [z8]; decide +kernel) ?_
                    refine T_if1 (by decide +kernel) ?_
                    refine T_getV w_r2 (by omega) rfl ?_
                    refine T_ret (Or.inr ⟨⟨k0, k1⟩, sr, ry, ?_⟩)
                    show vL (sr 3 2) = vL (y_t20 ..)
                    unfold y_t20
                    rw [if_neg z0, if_neg z1, if_neg z2, if_neg z3, if_neg z4, if_neg z5, if_neg z6, if_neg z7, if_pos z8]
                  · refine T_ite (fun z9 => ?_) (fun z9 => ?_)
                    · refine T_if1 v_ob1 ?_
                      refine T_let 2 (by decide +kernel) ?_
                      refine T_let 3 (by rw [z9]; decide +kernel) ?_
                      refine T_if1 (by decide +kernel) ?_
                      refine T_getV w_r2 (by omega) rfl ?_
                      refine T_ret (Or.inr ⟨⟨k0, k1⟩, sr, ry, ?_⟩)
                      show vL (sr 3 3) = vL (y_t20 ..)
                      unfold y_t20
                      rw [if_neg z0, if_neg z1, if_neg z2, if_neg z3, if_neg z4, if_neg z5, if_neg z6, if_neg z7, if_neg z8, if_pos z9]
                    · refine T_ite (fun z10 => ?_) (fun z10 => ?_)
                      · refine T_if1 v_ob1 ?_
                        refine T_let 2 (by decide +kernel) ?_
                        refine T_let 4 (by rw [z10]; decide +kernel) ?_
                        refine T_if1 (by decide +kernel) ?_
                        refine T_getV w_r2 (by omega) rfl ?_
                        refine T_ret (Or.inr ⟨⟨k0, k1⟩, sr, ry, ?_⟩)
                        show vL (sr 3 4) = vL (y_t20 ..)
                        unfold y_t20
                        rw [if_neg z0, if_neg z1, if_neg z2, if_neg z3, if_neg z4, if_neg z5, if_neg z6, if_neg z7, if_neg z8, if_neg z9, if_pos z10]
                      · refine T_ite (fun z11 => ?_) (fun z11 => ?_)
                        · refine T_if1 v_ob1 ?_
                          refine T_let 2 (by decide +kernel) ?_
                          refine T_let 5 (by rw [z11]; decide +kernel) ?_
                          refine T_if1 (by decide +kernel) ?_
                          refine T_getV w_r2 (by omega) rfl ?_
                          refine T_ret (Or.inr ⟨⟨k0, k1⟩, sr, ry, ?_⟩)
                          show vL (sr 3 5) = vL (y_t20 ..)
                          unfold y_t20
                          rw [if_neg z0, if_neg z1, if_neg z2, if_neg z3, if_neg z4, if_neg z5, if_neg z6, if_neg z7, if_neg z8, if_neg z9, if_neg z10, if_pos z11]
                        · refine T_ite (fun z12 => ?_) (fun z12 => ?_)
                          · refine T_if1 v_ob1 ?_
                            refine T_let 2 (by decide +kernel) ?_
                            refine T_let 6 (by rw [z12]; decide +kernel) ?_
                            refine T_if1 (by decide +kernel) ?_
                            refine T_getV w_r2 (by omega) rfl ?_
                            refine T_ret (Or.inr ⟨⟨k0, k1⟩, sr, ry, ?_⟩)
                            show vL (sr 3 6) = vL (y_t20 ..)
                            unfold y_t20
                            rw [if_neg z0, if_neg z1, if_neg z2, if_neg z3, if_neg z4, if_neg z5, if_neg z6, if_neg z7, if_neg z8, if_neg z9, if_neg z10, if_neg z11, if_pos z12]
                          · refine T_ite (fun z13 => ?_) (fun z13 => ?_)
                            · refine T_if1 v_ob1 ?_
                              refine T_let 33 (by decide +kernel) ?_
                              refine T_if1 (by decide +kernel) ?_
                              refine T_let (sr 33 2) rfl ?_
                              refine T_ret (Or.inr ⟨⟨k0, k1⟩, sr, ry, ?_⟩)
                              show vL (sr 33 2) = vL (y_t20 ..)
                              unfold y_t20
                              rw [if_neg z0, if_neg z1, if_neg z2, if_neg z3, if_neg z4, if_neg z5, if_neg z6, if_neg z7, if_neg z8, if_neg z9, if_neg z10, if_neg z11, if_neg z12, if_pos z13]
                            · refine T_ite (fun z14 => ?_) (fun z14 => ?_)
                              · refine T_if1 v_ob1 ?_
                                refine T_let (sr 1 12) rfl ?_
                                refine T_ret (Or.inr ⟨⟨k0, k1⟩, sr, ry, ?_⟩)
                                show vL (sr 1 12) = vL (y_t20 ..)
                                unfold y_t20
                                rw [if_neg z0, if_neg z1, if_neg z2, if_neg z3, if_neg z4, if_neg z5, if_neg z6, if_neg z7, if_neg z8, if_neg z9, if_neg z10, if_neg z11, if_neg z12, if_neg z13, if_pos z14]
                              · refine T_ite (fun z15 => ?_) (fun z15 => ?_)
                                · refine T_if1 v_ob1 ?_
                                  refine T_let 240 (by decide +kernel) ?_
                                  refine T_if1 v_ob1 ?_
                                  refine T_let 2 (by decide +kernel) ?_
                                  refine T_if1 (by decide +kernel) ?_
                                  refine T_getV w_r2 (by omega) rfl ?_
                                  refine T_if1 (by decide +kernel) ?_
                                  refine T_useI (e_tooLongX hfu cm rfl ls) (fun v sx hq => ?_)
                                  subst hq
                                  refine T_vI ?_
                                  refine T_ret (Or.inr ⟨⟨k0, k1⟩, sr, ry, ?_⟩)
                                  show vL (y_xn (fun l => y_LG (y_dc sr) (sr 248 l) (sr 248 (l + 1) - 1) (sr 3 2)) (sr 3 0) cc) = vL (y_t20 ..)
                                  unfold y_t20
                                  rw [if_neg z0, if_neg z1, if_neg z2, if_neg z3, if_neg z4, if_neg z5, if_neg z6, if_neg z7, if_neg z8, if_neg z9, if_neg z10, if_neg z11, if_neg z12, if_neg z13, if_neg z14, if_pos z15, e6]
                                · refine T_ite (fun z16 => ?_) (fun z16 => ?_)
                                  · refine T_if1 v_ob1 ?_
                                    refine T_let 2 (by decide +kernel) ?_
                                    refine T_if1 (by decide +kernel) ?_
                                    refine T_getV w_r2 (by omega) rfl ?_
                                    refine T_ret (Or.inr ⟨⟨k0, k1⟩, sr, ry, ?_⟩)
                                    show vL (sr 3 7) = vL (y_t20 ..)
                                    unfold y_t20
                                    rw [if_neg z0, if_neg z1, if_neg z2, if_neg z3, if_neg z4, if_neg z5, if_neg z6, if_neg z7, if_neg z8, if_neg z9, if_neg z10, if_neg z11, if_neg z12, if_neg z13, if_neg z14, if_neg z15, if_pos z16]
                                  · refine T_ite (fun z17 => ?_) (fun z17 => ?_)
                                    · refine T_if1 v_ob1 ?_
                                      refine T_let 2 (by decide +kernel) ?_
                                      refine T_if1 (by decide +kernel) ?_
                                      refine T_getV w_r2 (by omega) rfl ?_
                                      refine T_ret (Or.inr ⟨⟨k0, k1⟩, sr, ry, ?_⟩)
                                      show vL (sr 3 8) = vL (y_t20 ..)
                                      unfold y_t20
                                      rw [if_neg z0, if_neg z1, if_neg z2, if_neg z3, if_neg z4, if_neg z5, if_neg z6, if_neg z7, if_neg z8, if_neg z9, if_neg z10, if_neg z11, if_neg z12, if_neg z13, if_neg z14, if_neg z15, if_neg z16, if_pos z17]
                                    · refine T_ite (fun z18 => ?_) (fun z18 => ?_)
                                      · refine T_if1 v_ob1 ?_
                                        refine T_let 191 (by decide +kernel) ?_
                                        refine T_if1 v_ob191 ?_
                                        refine T_let (sr 191 17) rfl ?_
                                        refine T_ret (Or.inr ⟨⟨k0, k1⟩, sr, ry, ?_⟩)
                                        show vL (sr 191 17) = vL (y_t20 ..)
                                        unfold y_t20
                                        rw [if_neg z0, if_neg z1, if_neg z2, if_neg z3, if_neg z4, if_neg z5, if_neg z6, if_neg z7, if_neg z8, if_neg z9, if_neg z10, if_neg z11, if_neg z12, if_neg z13, if_neg z14, if_neg z15, if_neg z16, if_neg z17, if_pos z18]
                                      · refine T_ite (fun z19 => ?_) (fun z19 => ?_)
                                        · refine T_if1 v_ob1 ?_
                                          refine T_let 191 (by decide +kernel) ?_
                                          refine T_if1 v_ob191 ?_
                                          refine T_let (sr 191 18) rfl ?_
                                          refine T_ret (Or.inr ⟨⟨k0, k1⟩, sr, ry, ?_⟩)
                                          show vL (sr 191 18) = vL (y_t20 ..)
                                          unfold y_t20
                                          rw [if_neg z0, if_neg z1, if_neg z2, if_neg z3, if_neg z4, if_neg z5, if_neg z6, if_neg z7, if_neg z8, if_neg z9, if_neg z10, if_neg z11, if_neg z12, if_neg z13, if_neg z14, if_neg z15, if_neg z16, if_neg z17, if_neg z18]
                                        · refine T_if1 v_ob1 ?_
                                          refine T_let 2 (by decide +kernel) ?_
                                          refine T_let (q - 6) (v_wid (by omega)) ?_
                                          refine T_if1 (by decide +kernel) ?_
                                          refine T_getV w_r2 (by omega) rfl ?_
                                          exact absurd k1 (by omega)
theorem em_more {fu : Nat} {s : z_M} {a b : Int} : fX12_more fu s a b = some (vI (z_max a b), s) := by
  unfold fX12_more fX12_more_J10 z_max
  by_cases h : a ≤ b
  · rw [if_pos h]
    by_cases z : a < b
    · rw [if_pos z]
    · rw [if_neg z, show a = b by omega]
  · rw [if_neg h, if_neg (by omega)]
theorem em_longestL {fu : Nat} {s : z_M} {c : Nat} (hc : s 309 44 = c) (h2 : (c : Int) ≤ 200) {k : z_M → Int → z_O} {P : z_V → z_M → Prop} (hk : z_T (k s (y_mx (s 3446) c)) P) : ∀ (m F j : Nat), j + m = c → m < F → z_T (fX12_longest_L4 fu 309 F s (y_mx (s 3446) j) (j : Int) k) P := by
  intro m
  induction m with
  | zero =>
    intro F j h1 hF
    obtain ⟨F, rfl⟩ : ∃ F2, F = F2 + 1 := ⟨F - 1, by omega⟩
    have ej : j = c := by omega
    subst ej
    refine T_of (fX12_longest_L4.eq_2 ..) ?_
    refine T_if1 v_ob309 ?_
    refine T_let (j : Int) hc ?_
    refine T_if1 (Int.le_refl _) ?_
    exact hk
  | succ m ih =>
    intro F j h1 hF
    obtain ⟨F, rfl⟩ : ∃ F2, F = F2 + 1 := ⟨F - 1, by omega⟩
    refine T_of (fX12_longest_L4.eq_2 ..) ?_
    refine T_if1 v_ob309 ?_
    refine T_let (c : Int) hc ?_
    refine T_if0 (by omega) ?_
    refine T_if1 v_ob309 ?_
    refine T_let 3446 v_gm53 ?_
    refine T_if1 (v_x3446 (by omega)) ?_
    refine T_let (s 3446 (j : Int)) rfl ?_
    refine T_bI (T_of (em_more (a := y_mx (s 3446) j) (b := s 3446 (j : Int))) (T_rI ?_))
    refine T_let ((j : Int) + 1) (v_wid (by omega)) ?_
    exact ih F (j + 1) (by omega) (by omega)
theorem em_longest {fu : Nat} (hfu : 8589934592 ≤ fu) {s : z_M} {c : Nat} (hc : s 309 44 = c) (h2 : (c : Int) ≤ 200) : z_T (fX12_longest fu s 309) (fun v s' => v = vI (y_mx (s 3446) c) ∧ s' = s) := by
  refine T_of (fX12_longest.eq_1 ..) ?_
  exact em_longestL hc h2 (T_ret ⟨rfl, rfl⟩) c fu 0 (by omega) (by omega)
theorem em_unfitL {fu : Nat} {s : z_M} {c : Nat} (hc : s 309 44 = c) (h2 : (c : Int) ≤ 200) {k : z_M → Int → z_O} {P : z_V → z_M → Prop} (hk : z_T (k s (y_xn (s 3446) (s 312 0) c)) P) : ∀ (m F j : Nat), j + m = c → m < F → z_T (fX12_unfit_L4 fu 309 F s (y_xn (s 3446) (s 312 0) j) (j : Int) k) P := by
  intro m
  induction m with
  | zero =>
    intro F j h1 hF
    obtain ⟨F, rfl⟩ : ∃ F2, F = F2 + 1 := ⟨F - 1, by omega⟩
    have ej : j = c := by omega
    subst ej
    refine T_of (fX12_unfit_L4.eq_2 ..) ?_
    refine T_if1 v_ob309 ?_
    refine T_let (j : Int) hc ?_
    refine T_if1 (Int.le_refl _) ?_
    exact hk
  | succ m ih =>
    intro F j h1 hF
    obtain ⟨F, rfl⟩ : ∃ F2, F = F2 + 1 := ⟨F - 1, by omega⟩
    have b1 := y_xn_b (f := s 3446) (L := s 312 0) j
    have fin : ∀ z : Int, z = (if s 3446 (j : Int) ≤ s 312 0 then 0 else 1) → z_T (fX12_unfit_J33 fu s 309 (j : Int) (y_xn (s 3446) (s 312 0) j) z (fun w v1 v2 => fX12_unfit_L4 fu 309 F w v1 v2 k) k) P := fun z e => by
      have z01 : z = 0 ∨ z = 1 := by rw [e]; split <;> decide
      refine T_of (fX12_unfit_J33.eq_1 ..) ?_
      refine T_let (y_xn (s 3446) (s 312 0) (j + 1)) (by rw [y_xn_s, ← e]; exact v_wid (by omega)) ?_
      refine T_let (((j + 1 : Nat)) : Int) (by rw [v_wid (by omega)]; omega) ?_
      exact ih F (j + 1) (by omega) (by omega)
    refine T_of (fX12_unfit_L4.eq_2 ..) ?_
    refine T_if1 v_ob309 ?_
    refine T_let (c : Int) hc ?_
    refine T_if0 (by omega) ?_
    refine T_if1 v_ob309 ?_
    refine T_let 3446 v_gm53 ?_
    refine T_if1 (v_x3446 (by omega)) ?_
    refine T_let (s 3446 (j : Int)) rfl ?_
    refine T_if1 v_ob309 ?_
    refine T_let 312 v_gm9 ?_
    refine T_if1 (v_x312 (by omega)) ?_
    refine T_let (s 312 0) rfl ?_
    refine T_ite (fun q => fin 0 ?_) (fun q => fin 1 ?_)
    · rw [if_pos q]
    · rw [if_neg q]
theorem em_unfit {fu : Nat} (hfu : 8589934592 ≤ fu) {s : z_M} {c : Nat} (hc : s 309 44 = c) (h2 : (c : Int) ≤ 200) : z_T (fX12_unfit fu s 309) (fun v s' => v = vI (y_xn (s 3446) (s 312 0) c) ∧ s' = s) := by
  refine T_of (fX12_unfit.eq_1 ..) ?_
  exact em_unfitL hc h2 (T_ret ⟨rfl, rfl⟩) c fu 0 (by omega) (by omega)
theorem z_bd391 {j : Int} (h : 0 ≤ j ∧ j ≤ 199) : z_bd 391 j = (0, j) := by
  unfold z_bd
  repeat (first | rw [if_pos (by omega)] | rw [if_neg (by omega)])
theorem em_told {fu : Nat} (hfu : 8589934592 ≤ fu) {s : z_M} (h : y_GY s) {q : Int} : z_T (fX12_told fu s 309 q) (fun v s' => ∃ y, v = vL y ∧ y_AL s s' (0 ≤ q ∧ q ≤ 19) y (fun sl => y_t20 q (sl 309 20) (sl 316 0) (y_gt sl 0) (sl 309 44) (y_mx (sl 3446) (sl 309 44).toNat) (y_cs (y_co (fun x y => y_LG (y_dm sl) x y (sl 312 2)) (sl 312 0) (sl 309 20)) (sl 3438) (sl 309 44).toNat) (sl 312 0) (sl 312 1) (sl 312 2) (sl 312 3) (sl 312 4) (sl 312 5) (sl 312 6) (sl 309 19) (sl 309 2) (y_xn (sl 3446) (sl 312 0) (sl 309 44).toNat) (sl 312 7) (sl 312 8) (sl 309 38) (sl 309 39))) := by
  refine T_of (fX12_told.eq_1 ..) ?_
  refine T_if1 v_ob309 ?_
  refine T_upg h.1 bd_309_0 (by decide) (fun s1 c1 g g2 e0 => ?_)
  have h1 := h.z c1 g g2
  refine T_bI (T_of em_in (T_rI ?_))
  by_cases k : 0 ≤ q ∧ q ≤ 19
  · rw [if_pos k]
    refine T_if1 (by decide) ?_
    refine T_of (fX12_told_J21.eq_1 ..) ?_
    refine T_if1 v_ob309 ?_
    refine T_bI (T_of (em_bad0 e0) (T_rI ?_))
    refine T_if1 rfl ?_
    refine T_if1 v_ob309 ?_
    refine T_useN (em_lay hfu h1) (fun v sl hq => ?_)
    obtain ⟨rfl, rl⟩ := hq
    refine T_vN ?_
    have rm := rl.m g g2
    have e1 : sl 309 0 = 0 := (rl.k 309 0 (by omega)).trans e0
    have ok := rl.2.2.2.1
    have mk0 := ok.1.MK rl.2.2.2.2.1
    obtain ⟨nx, cc, ⟨hx, hc, h6, hr⟩, _⟩ := rl.2.2.1
    have nn := ok.1.1.1
    have hl := ok.2.2.2
    have n1 := y_n1 rl.1
    have e6 : (sl 309 44).toNat = cc := by omega
    have fin : ∀ (sx : z_M) (x : Int), sx 309 0 = sl 309 0 → x = (fun sl => y_t20 q (sl 309 20) (sl 316 0) (y_gt sl 0) (sl 309 44) (y_mx (sl 3446) (sl 309 44).toNat) (y_cs (y_co (fun x y => y_LG (y_dm sl) x y (sl 312 2)) (sl 312 0) (sl 309 20)) (sl 3438) (sl 309 44).toNat) (sl 312 0) (sl 312 1) (sl 312 2) (sl 312 3) (sl 312 4) (sl 312 5) (sl 312 6) (sl 309 19) (sl 309 2) (y_xn (sl 3446) (sl 312 0) (sl 309 44).toNat) (sl 312 7) (sl 312 8) (sl 309 38) (sl 309 39)) sl → ∃ y, vL x = vL y ∧ y_AL s sx (0 ≤ q ∧ q ≤ 19) y (fun sl => y_t20 q (sl 309 20) (sl 316 0) (y_gt sl 0) (sl 309 44) (y_mx (sl 3446) (sl 309 44).toNat) (y_cs (y_co (fun x y => y_LG (y_dm sl) x y (sl 312 2)) (sl 312 0) (sl 309 20)) (sl 3438) (sl 309 44).toNat) (sl 312 0) (sl 312 1) (sl 312 2) (sl 312 3) (sl 312 4) (sl 312 5) (sl 312 6) (sl 309 19) (sl 309 2) (y_xn (sl 3446) (sl 312 0) (sl 309 44).toNat) (sl 312 7) (sl 312 8) (sl 309 38) (sl 309 39)) := fun sx x a b => ⟨x, rfl, Or.inr ⟨k, a.trans e1, sl, rm, b⟩⟩
    refine T_ite (fun z0 => ?_) (fun z0 => ?_)
    · refine T_if1 v_ob309 ?_
      refine T_let (sl 309 20) rfl ?_
      refine T_ret (fin _ _ rfl ?_)
      show sl 309 20 = y_t20 ..
      unfold y_t20
      rw [if_pos z0]
    · refine T_ite (fun z1 => ?_) (fun z1 => ?_)
      · refine T_if1 v_ob309 ?_
        refine T_let 315 v_gm12 ?_
        refine T_if1 v_gz315.2 ?_
        refine T_let 316 v_gz315.1 ?_
        refine T_if1 (v_x316 (by omega)) ?_
        refine T_let (sl 316 0) rfl ?_
        refine T_ret (fin _ _ rfl ?_)
        show sl 316 0 = y_t20 ..
        unfold y_t20
        rw [if_neg z0, if_pos z1]
      · refine T_ite (fun z2 => ?_) (fun z2 => ?_)
        · refine T_if1 v_ob309 ?_
          refine T_bI (T_of (fX12_groupsOf.eq_1 ..) ?_)
          refine T_if1 v_ob309 ?_
          refine T_let 315 v_gm12 ?_
          refine T_if1 v_gz315.2 ?_
          refine T_let 316 v_gz315.1 ?_
          refine T_if1 (v_x316 (by omega)) ?_
          refine T_let (sl 316 1) rfl ?_
          refine T_ite (fun hz => ?_) (fun hz => ?_)
          · have g9 := CI_b rl.1 (z_bd391 (j := sl 316 1 - 1) ⟨by omega, by omega⟩)
            refine T_if1 v_ob309 ?_
            refine T_let 390 v_gm17 ?_
            refine T_if1 v_gz390.2 ?_
            refine T_let 391 v_gz390.1 ?_
            refine T_if1 v_ob309 ?_
            refine T_let 315 v_gm12 ?_
            refine T_if1 v_gz315.2 ?_
            refine T_let 316 v_gz315.1 ?_
            refine T_if1 (v_x316 (by omega)) ?_
            refine T_let (sl 316 1) rfl ?_
            refine T_let ((sl 316 1) - 1) (v_wid (by omega)) ?_
            refine T_if1 (v_x391 (by omega)) ?_
            refine T_let (sl 391 ((sl 316 1) - 1)) rfl ?_
            refine T_let ((sl 391 ((sl 316 1) - 1)) + 1) (v_wid (by omega)) ?_
            refine T_of (fX12_groupsOf_J34.eq_1 ..) ?_
            refine T_rI ?_
            refine T_ret (fin _ _ rfl ?_)
            show (sl 391 ((sl 316 1) - 1)) + 1 = y_t20 ..
            unfold y_t20
            rw [if_neg z0, if_neg z1, if_pos z2]
            unfold y_gt
            rw [show (316 + 0 : Int) = 316 by decide, show (391 + 0 : Int) = 391 by decide]
            rw [if_neg (by omega)]
          · refine T_of (fX12_groupsOf_J34.eq_1 ..) ?_
            refine T_rI ?_
            refine T_ret (fin _ _ rfl ?_)
            show 0 = y_t20 ..
            unfold y_t20
            rw [if_neg z0, if_neg z1, if_pos z2]
            unfold y_gt
            rw [show (316 + 0 : Int) = 316 by decide, show (391 + 0 : Int) = 391 by decide]
            rw [if_pos (by omega)]
        · refine T_ite (fun z3 => ?_) (fun z3 => ?_)
          · refine T_if1 v_ob309 ?_
            refine T_let (sl 309 44) rfl ?_
            refine T_ret (fin _ _ rfl ?_)
            show sl 309 44 = y_t20 ..
            unfold y_t20
            rw [if_neg z0, if_neg z1, if_neg z2, if_pos z3]
          · refine T_ite (fun z4 => ?_) (fun z4 => ?_)
            · refine T_if1 v_ob309 ?_
              refine T_useI (em_longest hfu h6 (by omega)) (fun v sx hq => ?_)
              obtain ⟨rfl, e9⟩ := hq
              have e8 := e9.symm
              subst e8
              refine T_vI ?_
              refine T_ret (fin _ _ rfl ?_)
              show y_mx (sl 3446) cc = y_t20 ..
              unfold y_t20
              rw [if_neg z0, if_neg z1, if_neg z2, if_neg z3, if_pos z4, e6]
            · refine T_ite (fun z5 => ?_) (fun z5 => ?_)
              · refine T_if1 v_ob309 ?_
                refine T_bL (T_of (fX12_costs.eq_1 ..) ?_)
                refine em_costsL hfu (co := y_co (fun x y => y_LG (y_dm sl) x y (sl 312 2)) (sl 312 0) (sl 309 20)) (fun _ _ => rfl) mk0 rfl rfl hl h6 hc hr hx.b (fun sx mk => T_rL ?_) cc fu sl 0 0 0 (by omega) (by omega) rfl rfl mk0
                have hsx : sx 309 0 = sl 309 0 := mk.2.2.2 309 0 (by omega) (by omega) (by omega)
                refine T_ret (fin _ _ hsx ?_)
                show y_cs (y_co (fun x y => y_LG (y_dm sl) x y (sl 312 2)) (sl 312 0) (sl 309 20)) (sl 3438) cc = y_t20 ..
                unfold y_t20
                rw [if_neg z0, if_neg z1, if_neg z2, if_neg z3, if_neg z4, if_pos z5, e6]
              · refine T_ite (fun z6 => ?_) (fun z6 => ?_)
                · refine T_if1 v_ob309 ?_
                  refine T_let 312 v_gm9 ?_
                  refine T_let 0 (by rw [z6]; decide +kernel) ?_
                  refine T_if1 (v_x312 (by omega)) ?_
                  refine T_let (sl 312 0) rfl ?_
                  refine T_ret (fin _ _ rfl ?_)
                  show sl 312 0 = y_t20 ..
                  unfold y_t20
                  rw [if_neg z0, if_neg z1, if_neg z2, if_neg z3, if_neg z4, if_neg z5, if_pos z6]
                · refine T_ite (fun z7 => ?_) (fun z7 => ?_)
                  · refine T_if1 v_ob309 ?_
                    refine T_let 312 v_gm9 ?_
                    refine T_let 1 (by rw [z7]; decide +kernel) ?_
                    refine T_if1 (v_x312 (by omega)) ?_
                    refine T_let (sl 312 1) rfl ?_
                    refine T_ret (fin _ _ rfl ?_)
                    show sl 312 1 = y_t20 ..
                    unfold y_t20
                    rw [if_neg z0, if_neg z1, if_neg z2, if_neg z3, if_neg z4, if_neg z5, if_neg z6, if_pos z7]
                  · refine T_ite (fun z8 => ?_) (fun z8 => ?_)
                    · refine T_if1 v_ob309 ?_
                      refine T_let 312 v_gm9 ?_
                      refine T_let 2 (by rw [z8]; decide +kernel) ?_
                      refine T_if1 (v_x312 (by omega)) ?_
                      refine T_let (sl 312 2) rfl ?_
                      refine T_ret (fin _ _ rfl ?_)
                      show sl 312 2 = y_t20 ..
                      unfold y_t20
                      rw [if_neg z0, if_neg z1, if_neg z2, if_neg z3, if_neg z4, if_neg z5, if_neg z6, if_neg z7, if_pos z8]
                    · refine T_ite (fun z9 => ?_) (fun z9 => ?_)
                      · refine T_if1 v_ob309 ?_
                        refine T_let 312 v_gm9 ?_
                        refine T_let 3 (by rw [z9]; decide +kernel) ?_
                        refine T_if1 (v_x312 (by omega)) ?_
                        refine T_let (sl 312 3) rfl ?_
                        refine T_ret (fin _ _ rfl ?_)
                        show sl 312 3 = y_t20 ..
                        unfold y_t20
                        rw [if_neg z0, if_neg z1, if_neg z2, if_neg z3, if_neg z4, if_neg z5, if_neg z6, if_neg z7, if_neg z8, if_pos z9]
                      · refine T_ite (fun z10 => ?_) (fun z10 => ?_)
                        · refine T_if1 v_ob309 ?_
                          refine T_let 312 v_gm9 ?_
                          refine T_let 4 (by rw [z10]; decide +kernel) ?_
                          refine T_if1 (v_x312 (by omega)) ?_
                          refine T_let (sl 312 4) rfl ?_
                          refine T_ret (fin _ _ rfl ?_)
                          show sl 312 4 = y_t20 ..
                          unfold y_t20
                          rw [if_neg z0, if_neg z1, if_neg z2, if_neg z3, if_neg z4, if_neg z5, if_neg z6, if_neg z7, if_neg z8, if_neg z9, if_pos z10]
                        · refine T_ite (fun z11 => ?_) (fun z11 => ?_)
                          · refine T_if1 v_ob309 ?_
                            refine T_let 312 v_gm9 ?_
                            refine T_let 5 (by rw [z11]; decide +kernel) ?_
                            refine T_if1 (v_x312 (by omega)) ?_
                            refine T_let (sl 312 5) rfl ?_
                            refine T_ret (fin _ _ rfl ?_)
                            show sl 312 5 = y_t20 ..
                            unfold y_t20
                            rw [if_neg z0, if_neg z1, if_neg z2, if_neg z3, if_neg z4, if_neg z5, if_neg z6, if_neg z7, if_neg z8, if_neg z9, if_neg z10, if_pos z11]
                          · refine T_ite (fun z12 => ?_) (fun z12 => ?_)
                            · refine T_if1 v_ob309 ?_
                              refine T_let 312 v_gm9 ?_
                              refine T_let 6 (by rw [z12]; decide +kernel) ?_
                              refine T_if1 (v_x312 (by omega)) ?_
                              refine T_let (sl 312 6) rfl ?_
                              refine T_ret (fin _ _ rfl ?_)
                              show sl 312 6 = y_t20 ..
                              unfold y_t20
                              rw [if_neg z0, if_neg z1, if_neg z2, if_neg z3, if_neg z4, if_neg z5, if_neg z6, if_neg z7, if_neg z8, if_neg z9, if_neg z10, if_neg z11, if_pos z12]
                            · refine T_ite (fun z13 => ?_) (fun z13 => ?_)
                              · refine T_if1 v_ob309 ?_
                                refine T_let (sl 309 19) rfl ?_
                                refine T_ret (fin _ _ rfl ?_)
                                show sl 309 19 = y_t20 ..
                                unfold y_t20
                                rw [if_neg z0, if_neg z1, if_neg z2, if_neg z3, if_neg z4, if_neg z5, if_neg z6, if_neg z7, if_neg z8, if_neg z9, if_neg z10, if_neg z11, if_neg z12, if_pos z13]
                              · refine T_ite (fun z14 => ?_) (fun z14 => ?_)
                                · refine T_if1 v_ob309 ?_
                                  refine T_let (sl 309 2) rfl ?_
                                  refine T_ret (fin _ _ rfl ?_)
                                  show sl 309 2 = y_t20 ..
                                  unfold y_t20
                                  rw [if_neg z0, if_neg z1, if_neg z2, if_neg z3, if_neg z4, if_neg z5, if_neg z6, if_neg z7, if_neg z8, if_neg z9, if_neg z10, if_neg z11, if_neg z12, if_neg z13, if_pos z14]
                                · refine T_ite (fun z15 => ?_) (fun z15 => ?_)
                                  · refine T_if1 v_ob309 ?_
                                    refine T_useI (em_unfit hfu h6 (by omega)) (fun v sx hq => ?_)
                                    obtain ⟨rfl, e9⟩ := hq
                                    have e8 := e9.symm
                                    subst e8
                                    refine T_vI ?_
                                    refine T_ret (fin _ _ rfl ?_)
                                    show y_xn (sl 3446) (sl 312 0) cc = y_t20 ..
                                    unfold y_t20
                                    rw [if_neg z0, if_neg z1, if_neg z2, if_neg z3, if_neg z4, if_neg z5, if_neg z6, if_neg z7, if_neg z8, if_neg z9, if_neg z10, if_neg z11, if_neg z12, if_neg z13, if_neg z14, if_pos z15, e6]
                                  · refine T_ite (fun z16 => ?_) (fun z16 => ?_)
                                    · refine T_if1 v_ob309 ?_
                                      refine T_let 312 v_gm9 ?_
                                      refine T_let 7 (by rw [z16]; decide +kernel) ?_
                                      refine T_if1 (v_x312 (by omega)) ?_
                                      refine T_let (sl 312 7) rfl ?_
                                      refine T_ret (fin _ _ rfl ?_)
                                      show sl 312 7 = y_t20 ..
                                      unfold y_t20
                                      rw [if_neg z0, if_neg z1, if_neg z2, if_neg z3, if_neg z4, if_neg z5, if_neg z6, if_neg z7, if_neg z8, if_neg z9, if_neg z10, if_neg z11, if_neg z12, if_neg z13, if_neg z14, if_neg z15, if_pos z16]
                                    · refine T_ite (fun z17 => ?_) (fun z17 => ?_)
                                      · refine T_if1 v_ob309 ?_
                                        refine T_let 312 v_gm9 ?_
                                        refine T_let 8 (by rw [z17]; decide +kernel) ?_
                                        refine T_if1 (v_x312 (by omega)) ?_
                                        refine T_let (sl 312 8) rfl ?_
                                        refine T_ret (fin _ _ rfl ?_)
                                        show sl 312 8 = y_t20 ..
                                        unfold y_t20
                                        rw [if_neg z0, if_neg z1, if_neg z2, if_neg z3, if_neg z4, if_neg z5, if_neg z6, if_neg z7, if_neg z8, if_neg z9, if_neg z10, if_neg z11, if_neg z12, if_neg z13, if_neg z14, if_neg z15, if_neg z16, if_pos z17]
                                      · refine T_ite (fun z18 => ?_) (fun z18 => ?_)
                                        · refine T_if1 v_ob309 ?_
                                          refine T_let (sl 309 38) rfl ?_
                                          refine T_ret (fin _ _ rfl ?_)
                                          show sl 309 38 = y_t20 ..
                                          unfold y_t20
                                          rw [if_neg z0, if_neg z1, if_neg z2, if_neg z3, if_neg z4, if_neg z5, if_neg z6, if_neg z7, if_neg z8, if_neg z9, if_neg z10, if_neg z11, if_neg z12, if_neg z13, if_neg z14, if_neg z15, if_neg z16, if_neg z17, if_pos z18]
                                        · refine T_ite (fun z19 => ?_) (fun z19 => ?_)
                                          · refine T_if1 v_ob309 ?_
                                            refine T_let (sl 309 39) rfl ?_
                                            refine T_ret (fin _ _ rfl ?_)
                                            show sl 309 39 = y_t20 ..
                                            unfold y_t20
                                            rw [if_neg z0, if_neg z1, if_neg z2, if_neg z3, if_neg z4, if_neg z5, if_neg z6, if_neg z7, if_neg z8, if_neg z9, if_neg z10, if_neg z11, if_neg z12, if_neg z13, if_neg z14, if_neg z15, if_neg z16, if_neg z17, if_neg z18]
                                          · refine T_if1 v_ob309 ?_
                                            refine T_let 312 v_gm9 ?_
                                            refine T_let (q - 6) (v_wid (by omega)) ?_
                                            refine T_if1 (v_x312 (by omega)) ?_
                                            refine T_let (sl 312 (q - 6)) rfl ?_
                                            exact absurd k.2 (by omega)
  · rw [if_neg k]
    refine T_if0 (by decide) ?_
    refine T_of (fX12_told_J21.eq_1 ..) ?_
    refine T_if1 v_ob309 ?_
    refine T_useI (em_bad1 e0 (by decide) (Or.inr rfl)) (fun v s3 hq => ?_)
    obtain ⟨rfl, q1, _⟩ := hq
    refine T_vI ?_
    refine T_if0 (by decide) ?_
    exact T_ret ⟨_, rfl, Or.inl ⟨k, q1⟩⟩
/-- ties counted by the unit that opens the pair -/
def y_tf (K W : Int → Int) (T : Int) (n : Nat) (u : Int) : Int := if K u = 4 ∧ y_pt K n u ≠ -1 ∧ y_TD W T u (y_pt K n u) then 1 else 0
theorem y_tc_s {f : Int → Int} {n : Nat} : y_tc f (n + 1) = y_tc f n + f n := rfl
theorem y_tc_cg2 {f g : Int → Int} : ∀ n : Nat, (∀ i : Int, 0 ≤ i → i < n → f i = g i) → y_tc f n = y_tc g n := by
  intro n
  induction n with
  | zero => intro _; rfl
  | succ n ih => intro h; rw [y_tc_s, y_tc_s, ih (fun i p q => h i p (by omega)), h n (by omega) (by omega)]
theorem y_tc_pt {f g : Int → Int} {q : Int} : ∀ n : Nat, 0 ≤ q → q < n → (∀ i : Int, 0 ≤ i → i < n → i ≠ q → f i = g i) → y_tc f n = y_tc g n + (f q - g q) := by
  intro n
  induction n with
  | zero => intro h0 h1; omega
  | succ n ih =>
    intro h0 h1 h
    rw [y_tc_s, y_tc_s]
    by_cases z : q = (n : Int)
    · rw [y_tc_cg2 n (fun i a b => h i a (by omega) (by omega)), z]
      omega
    · rw [ih h0 (by omega) (fun i a b c => h i a (by omega) c), h n (by omega) (by omega) (fun w => z w.symm)]
      omega
theorem y_tn2_tc {K W : Int → Int} {T : Int} : ∀ n : Nat, y_tn2 K W T n = y_tc (y_tf K W T n) n := by
  intro n
  induction n with
  | zero => rfl
  | succ n ih =>
    rw [y_tn2_s, y_tc_s]
    by_cases C : K n = 5 ∧ y_lo K (y_pt K n) n ≠ -1
    · have l4 := y_lo_4 n C.2
      have lb := y_lo_b (K := K) (p := y_pt K n) n
      have last : y_tf K W T (n + 1) n = 0 := if_neg (fun w => by rw [C.1] at w; exact absurd w.1 (by decide))
      have ptn : ∀ u : Int, u < n → y_pt K (n + 1) u = if u = y_lo K (y_pt K n) n then (n : Int) else y_pt K n u := fun u hu => by
        rw [y_pt_s, if_pos C]
        exact if_neg (by omega)
      have step := y_tc_pt (f := y_tf K W T (n + 1)) (g := y_tf K W T n) (q := y_lo K (y_pt K n) n) n (by omega) lb.2 (fun i a b z => by unfold y_tf; rw [ptn i b, if_neg z])
      have g0 : y_tf K W T n (y_lo K (y_pt K n) n) = 0 := if_neg (fun w => w.2.1 l4.2)
      rw [last, step, g0, ih]
      by_cases t : y_TD W T (y_lo K (y_pt K n) n) n
      · have f1 : y_tf K W T (n + 1) (y_lo K (y_pt K n) n) = 1 := by
          unfold y_tf
          rw [ptn _ lb.2, if_pos rfl]
          exact if_pos ⟨l4.1, by omega, t⟩
        rw [if_pos ⟨C, t⟩, f1]
        omega
      · have f0 : y_tf K W T (n + 1) (y_lo K (y_pt K n) n) = 0 := by
          unfold y_tf
          rw [ptn _ lb.2, if_pos rfl]
          exact if_neg (fun w => t w.2.2)
        rw [if_neg (fun w => t w.2), f0]
        omega
    · have e : y_pt K (n + 1) = y_pt K n := by rw [y_pt_s, if_neg C]
      have e2 : y_tf K W T (n + 1) = y_tf K W T n := funext fun u => by unfold y_tf; rw [e]
      have last : y_tf K W T n n = 0 := if_neg (fun w => w.2.1 (y_pt_ge n n (Int.le_refl _)))
      rw [if_neg (fun w => C w.1), e2, last, ih]
      omega
theorem y_OKc.tn {g : z_M} (ok : y_OKc g) : g 191 17 = y_pc (y_dc g 0) (g 191 16).toNat ∧ g 191 18 = y_tn2 (y_dc g 0) (y_dc g 1) (g 3 7) (g 191 16).toNat := by
  obtain ⟨u, t, d, n, _, _, w4⟩ := ok
  have ud := u.2.2 t
  have pr := ud.2.2.1.1
  have K : ∀ x : Int, 0 ≤ x → x < g 191 16 → y_dc g 0 x = g 193 x ∧ y_dc g 1 x = g 199 x := fun x a b => ⟨y_dc0 ⟨a, b⟩, y_dc1 ⟨a, b⟩⟩
  have epp := y_pt_cg (K := g 193) (K' := y_dc g 0) (g 191 16).toNat (fun i a b => ((K i a (by omega)).1).symm)
  have ep := epp.1
  refine ⟨ud.2.2.1.2.trans epp.2, ?_⟩
  rw [ud.2.2.2.2, y_tn2_tc]
  refine y_tc_cg2 _ (fun x a b => ?_)
  have bx : x < g 191 16 := by omega
  have px := pr x a bx
  have both : y_TP g x ↔ (y_dc g 0 x = 4 ∧ y_pt (y_dc g 0) (g 191 16).toNat x ≠ -1 ∧ y_TD (y_dc g 1) (g 3 7) x (y_pt (y_dc g 0) (g 191 16).toNat x)) := by
    rw [(K x a bx).1, ← ep, ← px]
    have key : g 193 x = 4 → g 207 x ≠ -1 → (g 211 (g 207 x + 1) - g 211 x ≤ g 3 7 ↔ y_TD (y_dc g 1) (g 3 7) x (g 207 x)) := fun k4 p1 => by
      have pk := y_pt_ok (K := g 193) (g 191 16).toNat x (by rw [← px]; exact p1)
      rw [← px] at pk
      obtain ⟨⟨_, _, p2, p3⟩, _, p4⟩ := pk
      have lt : x < g 207 x := by
        rcases p4 with p4 | p4
        · exact p4.2.1
        · have w := p4.1
          omega
      have b1 := (ud.2.1 (g 207 x + 1) (by omega) (by omega)).1
      have b2 := (ud.2.1 x a (by omega)).1
      have eb : y_sum (g 199) 0 (g 207 x + 1).toNat - y_sum (g 199) 0 x.toNat = y_sum (g 199) x (g 207 x + 1 - x).toNat := y_bef (D := fun _ => g 199) (x := x) (y := g 207 x + 1) a (by omega)
      have es : y_sum (y_dc g 1) x (g 207 x + 1 - x).toNat = y_sum (g 199) x (g 207 x + 1 - x).toNat := y_sum_cg _ (fun j q r => (K j (by omega) (by omega)).2)
      have pos : 1 ≤ y_sum (g 199) x (g 207 x + 1 - x).toNat := by
        have s1 := y_sum_pt (f := g 199) (a := x) (x := x + 1) (y := g 207 x + 1) (by omega) (by omega)
        have s2 := y_sum_r (f := g 199) (a := x + 1) (m := 2400) (g 207 x + 1 - (x + 1)).toNat (fun j q r => by rw [← (K j (by omega) (by omega)).2]; exact (d j (by omega) (by omega)).2.1)
        have s3 : y_sum (g 199) x (x + 1 - x).toNat = g 199 x := by
          rw [show (x + 1 - x).toNat = 0 + 1 by omega, y_sum_s]
          show 0 + g 199 (x + ((0 : Nat) : Int)) = g 199 x
          rw [show x + ((0 : Nat) : Int) = x by omega, Int.zero_add]
        have := w4 x a bx k4
        omega
      constructor
      · intro q
        exact ⟨by omega, by rw [es]; omega⟩
      · rintro ⟨_, q⟩
        rw [es] at q
        omega
    unfold y_TP
    constructor
    · rintro ⟨k4, p1, p2⟩
      exact ⟨k4, p1, (key k4 p1).mp p2⟩
    · rintro ⟨k4, p1, p2⟩
      exact ⟨k4, p1, (key k4 p1).mpr p2⟩
  unfold y_tf
  rcases y_tp_iff (s := g) (u := x) with ⟨e, q⟩ | ⟨e, q⟩
  · rw [e, if_pos (both.mp q)]
  · rw [e, if_neg (fun w => q (both.mpr w))]
theorem q_told {g s s' : z_M} (b : y_BT g s) (ok : y_OKc g) (yc : y_YC g) (h : y_RM s s') (e33 : g 33 2 = s 309 19) (e12 : g 1 12 = s 309 2) {q : Int} : (fun sr => y_t20 q (sr 191 16) (sr 6 6) (sr 6 7) (sr 240 6) (y_mx (sr 270) (sr 240 6).toNat) (y_cs (y_co (fun x y => y_LG (y_dc sr) x y (sr 3 2)) (sr 3 0) (sr 191 16)) (sr 248) (sr 240 6).toNat) (sr 3 0) (sr 3 1) (sr 3 2) (sr 3 3) (sr 3 4) (sr 3 5) (sr 3 6) (sr 33 2) (sr 1 12) (y_xn (fun l => y_LG (y_dc sr) (sr 248 l) (sr 248 (l + 1) - 1) (sr 3 2)) (sr 3 0) (sr 240 6).toNat) (sr 3 7) (sr 3 8) (sr 191 17) (sr 191 18)) g = (fun sl => y_t20 q (sl 309 20) (sl 316 0) (y_gt sl 0) (sl 309 44) (y_mx (sl 3446) (sl 309 44).toNat) (y_cs (y_co (fun x y => y_LG (y_dm sl) x y (sl 312 2)) (sl 312 0) (sl 309 20)) (sl 3438) (sl 309 44).toNat) (sl 312 0) (sl 312 1) (sl 312 2) (sl 312 3) (sl 312 4) (sl 312 5) (sl 312 6) (sl 309 19) (sl 309 2) (y_xn (sl 3446) (sl 312 0) (sl 309 44).toNat) (sl 312 7) (sl 312 8) (sl 309 38) (sl 309 39)) s' := by
  obtain ⟨⟨⟨c44, c200, lr, at'⟩, l2, l3, l4, l5⟩, b'⟩ := b.le ok yc h
  have eD := b'.D
  have en := b'.n
  have st := b'.2.2.2.2.2
  have XX := b'.2.1
  have kf := (h.2.2.2.2.1 h.2.2.2.1.1).resolve_left h.2.2.2.2.2
  obtain ⟨t17, t18⟩ := ok.tn
  have c0 : 0 ≤ g 240 6 := c200.1
  have m4 : y_mx (g 270) (g 240 6).toNat = y_mx (s' 3446) (s' 309 44).toNat := by
    rw [← c44]
    exact y_mx_cg _ (fun i p1 p2 => (l2 i p1 (by omega)).1)
  have m5 : y_cs (y_co (fun x y => y_LG (y_dc g) x y (g 3 2)) (g 3 0) (g 191 16)) (g 248) (g 240 6).toNat = y_cs (y_co (fun x y => y_LG (y_dm s') x y (s' 312 2)) (s' 312 0) (s' 309 20)) (s' 3438) (s' 309 44).toNat := by
    rw [← c44, eD, en, st, st]
    exact y_cs_cg _ (fun i p1 => lr i (by omega) (by omega)) (fun _ _ => rfl)
  have m15 : y_xn (fun l => y_LG (y_dc g) (g 248 l) (g 248 (l + 1) - 1) (g 3 2)) (g 3 0) (g 240 6).toNat = y_xn (s' 3446) (s' 312 0) (s' 309 44).toNat := by
    rw [← c44, st 0]
    refine y_xn_cg _ (fun i p1 p2 => ?_)
    obtain ⟨nx, cc, ⟨_, _, h6, _⟩, ly, _⟩ := yc ok
    have z := (ly i p1 (by omega)).1.1
    rw [y_qc1] at z
    rw [← z]
    exact (l2 i p1 (by omega)).1
  exact y_t20_cg en XX.1.n0 XX.2.2.2.1 c44 m4 m5 (st 0) (st 1) (st 2) (st 3) (st 4) (st 5) (st 6) (e33.trans (h.2.1 309 19 (by omega)).symm) (e12.trans (h.2.1 309 2 (by omega)).symm) m15 (st 7) (st 8) (by rw [t17, kf.2.2.1, eD, en]) (by rw [t18, kf.2.2.2.2, eD, en, st 7])
