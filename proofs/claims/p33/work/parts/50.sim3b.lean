/-! LETTERS AND GROUPS, 1: what is kept of a text's groups, and how long its readings are -/
theorem z_land16 (x : Int) : z_landl x 15 = x % 16 := by
  have h15 : (BitVec.ofInt 64 15) = 15#64 := by decide
  have n : ((BitVec.ofInt 64 x) &&& 15#64).toNat = (x % 16).toNat := by
    rw [BitVec.toNat_and, BitVec.toNat_ofInt]
    show (x % ((2 ^ 64 : Nat) : Int)).toNat &&& (2 ^ 4 - 1) = (x % 16).toNat
    rw [Nat.and_two_pow_sub_one_eq_mod]
    omega
  show ((BitVec.ofInt 64 x) &&& (BitVec.ofInt 64 15)).toInt = x % 16
  rw [h15, BitVec.toInt_eq_toNat_cond, n, if_pos (by omega)]
  omega
theorem z_sh16 : ∀ v : Fin 26, ∀ m : Fin 9, z_lshl ((v : Nat) : Int) (4 + 5 * ((m : Nat) : Int)) % 16 = 0 := by decide +kernel
/-- a letter more -/
theorem y_lt6_m {x c : Int} (hc : y_sml c) (h : x % 16 ≤ 8) : y_lt6 x c % 16 = x % 16 + 1 := by
  unfold y_sml at hc
  have e1 : z_w (c - 97) = c - 97 := z_wid (by unfold z_I; omega)
  have e2 : z_w (z_landl x 15) = x % 16 := by rw [z_land16]; exact z_wid (by unfold z_I; omega)
  have e3 : z_w (5 * (x % 16)) = 5 * (x % 16) := z_wid (by unfold z_I; omega)
  have e4 : z_w (4 + 5 * (x % 16)) = 4 + 5 * (x % 16) := z_wid (by unfold z_I; omega)
  have k := z_sh16 ⟨(c - 97).toNat, by omega⟩ ⟨(x % 16).toNat, by omega⟩
  have k1 : (((⟨(c - 97).toNat, by omega⟩ : Fin 26) : Nat) : Int) = c - 97 := by show (((c - 97).toNat : Nat) : Int) = c - 97; omega
  have k2 : (((⟨(x % 16).toNat, by omega⟩ : Fin 9) : Nat) : Int) = x % 16 := by show (((x % 16).toNat : Nat) : Int) = x % 16; omega
  rw [k1, k2] at k
  unfold y_lt6
  rw [e1, e2, e3, e4]
  unfold z_wl
  generalize z_lshl (c - 97) (4 + 5 * (x % 16)) = w at k
  omega
/-- of the bases below B: the group, and at the first sign how many letters there are on both sides -/
def y_XF (n : Int) (kd bs gr : Int → Int) (lt : Int → Int → Int) (cg ch cr cl : Int → Int) (B : Int) : Prop := ∀ i : Int, 0 ≤ i → i < n → kd i = 7 → bs i < B → 0 ≤ bs i ∧ cg i = gr (bs i) ∧ (ch i = 1 → cr i % 16 = lt (bs i) 0 ∧ cl i % 16 = lt (bs i) 10 ∧ 1 ≤ lt (bs i) 0)
def y_XD (g s : z_M) (B : Int) : Prop := y_XF (s 329 0) (s 359) (s 374) (s 404) (fun b => s (3020 + b)) (g 25) (g 27) (g 29) (g 31) B
/-- the number of groups -/
def y_gd (s : z_M) : Int := if s 329 1 = 0 then 0 else s 404 (s 329 1 - 1) + 1
/-- the draft's groups and letters are as before -/
def y_GS (s s' : z_M) : Prop := (∀ b, s' 404 b = s 404 b) ∧ ∀ c b : Int, 3020 ≤ c → c ≤ 3219 → s' c b = s c b
theorem y_GS.rf {s : z_M} : y_GS s s := ⟨fun _ => rfl, fun _ _ _ _ => rfl⟩
theorem y_GS.tr {r s s' : z_M} (h : y_GS r s) (k : y_GS s s') : y_GS r s' := ⟨fun b => (k.1 b).trans (h.1 b), fun c b p q => (k.2 c b p q).trans (h.2 c b p q)⟩
theorem y_GS.fr {r s s' : z_M} (h : y_GS r s) (k : ∀ b, s' 404 b = s 404 b) (k2 : ∀ c b : Int, 3020 ≤ c ∧ c ≤ 3219 → s' c b = s c b) : y_GS r s' := h.tr ⟨k, fun c b p q => k2 c b ⟨p, q⟩⟩
theorem y_gd_cg {s s' : z_M} (k : y_GS s s') (e : s' 329 1 = s 329 1) : y_gd s' = y_gd s := by
  unfold y_gd; rw [e, k.1]
/-- the class's groups: the same group's signs stand together; all are below the count -/
def y_CT (cg : Int → Int) (n : Int) : Prop := ∀ i j m : Int, 0 ≤ i → i < m → m < j → j < n → cg i = cg j → cg i ≠ -1 → cg m = cg i
def y_CLB (cg : Int → Int) (n c : Int) : Prop := ∀ i : Int, 0 ≤ i → i < n → cg i < c
/-- the last group, c - 1, reaches up to the end -/
def y_CE2 (cg : Int → Int) (n c : Int) : Prop := ∀ i j : Int, 0 ≤ i → i < j → j < n → cg i = c - 1 → cg j = c - 1
/-- a sign of no group -/
theorem y_CT.pl {cg cg' : Int → Int} {n n' : Int} (h : y_CT cg n) (hn : n' = n + 1) (e : cg' n = -1) (o : ∀ i, i ≠ n → cg' i = cg i) : y_CT cg' n' := fun i j m h1 h2 h3 h4 h5 h6 => by
  by_cases q : j = n
  · subst q; rw [e] at h5; exact absurd h5 h6
  · rw [o i (by omega)] at h5 h6 ⊢
    rw [o j q] at h5
    rw [o m (by omega)]
    exact h i j m h1 h2 h3 (by omega) h5 h6
theorem y_CLB.ad {cg cg' : Int → Int} {n n' c : Int} (h : y_CLB cg n c) (hn : n' = n + 1) (e : cg' n < c) (o : ∀ i, i ≠ n → cg' i = cg i) : y_CLB cg' n' c := fun i h1 h2 => by
  by_cases q : i = n
  · subst q; exact e
  · rw [o i q]; exact h i h1 (by omega)
/-- a sign of the last group -/
theorem y_CT.gr {cg cg' : Int → Int} {n n' c : Int} (h : y_CT cg n) (k : y_CE2 cg n c) (hn : n' = n + 1) (e : cg' n = c - 1) (o : ∀ i, i ≠ n → cg' i = cg i) : y_CT cg' n' := fun i j m h1 h2 h3 h4 h5 h6 => by
  by_cases q : j = n
  · subst q
    rw [e] at h5
    rw [o i (by omega)] at h5 ⊢
    rw [o m (by omega), h5]
    exact k i m h1 h2 (by omega) h5
  · rw [o i (by omega)] at h5 h6 ⊢
    rw [o j q] at h5
    rw [o m (by omega)]
    exact h i j m h1 h2 h3 (by omega) h5 h6
theorem y_CE2.gr {cg cg' : Int → Int} {n n' c : Int} (k : y_CE2 cg n c) (hn : n' = n + 1) (e : cg' n = c - 1) (o : ∀ i, i ≠ n → cg' i = cg i) : y_CE2 cg' n' c := fun i j h1 h2 h3 h4 => by
  by_cases q : j = n
  · subst q; exact e
  · rw [o j q]
    rw [o i (by omega)] at h4
    exact k i j h1 h2 (by omega) h4
/-- a new group -/
theorem y_CE2.new {cg : Int → Int} {n c : Int} (k : y_CLB cg n c) : y_CE2 cg n (c + 1) := fun i j h1 h2 h3 h4 => by
  have := k i h1 (by omega)
  omega
theorem y_CLB.up {cg : Int → Int} {n c c' : Int} (k : y_CLB cg n c) (h : c ≤ c') : y_CLB cg n c' := fun i h1 h2 => by
  have := k i h1 h2
  omega
/-- the pen, the marks: two bits -/
def y_PN (pn : Int) (mk : Int → Int) (n : Int) : Prop := (0 ≤ pn ∧ pn ≤ 3) ∧ ∀ i : Int, 0 ≤ i → i < n → 0 ≤ mk i ∧ mk i ≤ 3
/-- what the draft's ghost bears of it: bases below B stand; c groups -/
def y_XO (g s : z_M) (B c : Int) : Prop := y_XD g s B ∧ g 19 7 = c ∧ y_CT (g 25) (s 329 0) ∧ y_CLB (g 25) (s 329 0) c ∧ y_PN (g 19 8) (g 23) (s 329 0)
/-- of the base B, whose group is gr: its signs, its first one -/
def y_XC (g s : z_M) (B gr : Int) : Prop := (0 ≤ g 32 5 ∧ g 32 5 < s 329 0 ∧ s 374 (g 32 5) = B) ∧ ∀ i : Int, 0 ≤ i → i < s 329 0 → s 359 i = 7 → s 374 i = B → g 25 i = gr ∧ (g 27 i = 1 → i = g 32 5)
def y_X0 (g s : z_M) (B : Int) : Prop := ∀ i : Int, 0 ≤ i → i < s 329 0 → s 359 i = 7 → s 374 i = B → g 27 i = 1 → g 29 i = 0 ∧ g 31 i = 0
def y_XQ (g s : z_M) (B d n : Int) : Prop := (∀ i : Int, 0 ≤ i → i < s 329 0 → s 359 i = 7 → s 374 i = B → g 27 i = 1 → g 29 i % 16 = s (3020 + B) 0 ∧ g 31 i % 16 = s (3020 + B) 10) ∧ (d = 0 → s (3020 + B) 10 = 0 ∧ n = s (3020 + B) 0) ∧ (d = 1 → 1 ≤ s (3020 + B) 0 ∧ n = s (3020 + B) 10) ∧ (d = 0 ∨ d = 1)
theorem y_XF.cg {n n' : Int} {kd bs gr kd' bs' gr' : Int → Int} {lt lt' : Int → Int → Int} {cg ch cr cl cg' ch' cr' cl' : Int → Int} {B B' : Int} (h : y_XF n kd bs gr lt cg ch cr cl B) (hn : n' = n) (hB : B' ≤ B) (k : ∀ i, 0 ≤ i → i < n → kd' i = kd i ∧ bs' i = bs i ∧ cg' i = cg i ∧ ch' i = ch i ∧ cr' i = cr i ∧ cl' i = cl i) (q : ∀ b, 0 ≤ b → b < B' → gr' b = gr b ∧ lt' b 0 = lt b 0 ∧ lt' b 10 = lt b 10) : y_XF n' kd' bs' gr' lt' cg' ch' cr' cl' B' := fun i h0 h1 h2 h3 => by
  rw [hn] at h1
  obtain ⟨k1, k2, k3, k4, k5, k6⟩ := k i h0 h1
  rw [k1] at h2
  rw [k2] at h3 ⊢
  have w := h i h0 h1 h2 (by omega)
  obtain ⟨q1, q2, q3⟩ := q (bs i) w.1 h3
  rw [k3, k4, k5, k6, q1, q2, q3]
  exact w
/-- a sign more, of no base below B -/
theorem y_XF.ad {n n' : Int} {kd bs gr kd' bs' : Int → Int} {lt : Int → Int → Int} {cg ch cr cl cg' ch' cr' cl' : Int → Int} {B : Int} (h : y_XF n kd bs gr lt cg ch cr cl B) (hn : n' = n + 1) (k : ∀ i, 0 ≤ i → i < n → kd' i = kd i ∧ bs' i = bs i ∧ cg' i = cg i ∧ ch' i = ch i ∧ cr' i = cr i ∧ cl' i = cl i) (q : kd' n ≠ 7 ∨ B ≤ bs' n) : y_XF n' kd' bs' gr lt cg' ch' cr' cl' B := fun i h0 h1 h2 h3 => by
  by_cases z : i = n
  · subst z
    rcases q with q | q
    · exact absurd h2 q
    · omega
  · obtain ⟨k1, k2, k3, k4, k5, k6⟩ := k i h0 (by omega)
    rw [k1] at h2
    rw [k2] at h3 ⊢
    rw [k3, k4, k5, k6]
    exact h i h0 (by omega) h2 h3
/-- a sign more in the class's draft -/
theorem y_add_r {g : z_M} {code grp hd mk : Int} (h : 0 ≤ g 19 6 ∧ g 19 6 < 200) : (y_add g code grp hd mk 29 (g 19 6) = 0 ∧ y_add g code grp hd mk 31 (g 19 6) = 0) ∧ ∀ i, i ≠ g 19 6 → y_add g code grp hd mk 29 i = g 29 i ∧ y_add g code grp hd mk 31 i = g 31 i := by
  have l4 : z_ln 28 = 200 := by decide +kernel
  have l5 : z_ln 30 = 200 := by decide +kernel
  have k29 : ∀ i, y_add g code grp hd mk 29 i = z_up g 29 (g 19 6) 0 29 i := fun i => by
    unfold y_add
    rw [z_up_k (by decide), y_rp_o gr30 (by decide), z_rp_in (k := 28) ⟨h.1, by rw [l4]; omega⟩, gr28]
    by_cases q : i = g 19 6
    · rw [q, z_up_s, z_up_s]
    · rw [z_up_j q, z_up_j q, y_rp_o gr26 (by decide), y_rp_o gr24 (by decide), y_rp_o gr22 (by decide), y_rp_o gr20 (by decide)]
  have k31 : ∀ i, y_add g code grp hd mk 31 i = z_up g 31 (g 19 6) 0 31 i := fun i => by
    unfold y_add
    rw [z_up_k (by decide), z_rp_in (k := 30) ⟨h.1, by rw [l5]; omega⟩, gr30]
    by_cases q : i = g 19 6
    · rw [q, z_up_s, z_up_s]
    · rw [z_up_j q, z_up_j q, y_rp_o gr28 (by decide), y_rp_o gr26 (by decide), y_rp_o gr24 (by decide), y_rp_o gr22 (by decide), y_rp_o gr20 (by decide)]
  exact ⟨⟨by rw [k29, z_up_s], by rw [k31, z_up_s]⟩, fun i q => ⟨by rw [k29, z_up_j q], by rw [k31, z_up_j q]⟩⟩
theorem y_XO.g {g g' s : z_M} {B c : Int} (h : y_XO g s B c) (k : ∀ a b : Int, a ≠ 32 → g' a b = g a b) : y_XO g' s B c := by
  have e : ∀ a : Int, a ≠ 32 → g' a = g a := fun a q => funext fun b => k a b q
  unfold y_XO y_XD
  rw [e 25 (by decide), e 27 (by decide), e 29 (by decide), e 31 (by decide), e 23 (by decide), e 19 (by decide)]
  exact h
/-- the reference's draft with the same signs; groups and letters of bases below B as before -/
theorem y_XO.s {g s s' : z_M} {B B' c : Int} (h : y_XO g s B c) (hB : B' ≤ B) (k0 : s' 329 0 = s 329 0) (k3 : ∀ b, s' 359 b = s 359 b) (k4 : ∀ b, s' 374 b = s 374 b) (q : ∀ b, 0 ≤ b → b < B' → s' 404 b = s 404 b ∧ s' (3020 + b) 0 = s (3020 + b) 0 ∧ s' (3020 + b) 10 = s (3020 + b) 10) : y_XO g s' B' c := by
  refine ⟨?_, h.2.1, by rw [k0]; exact h.2.2.1, by rw [k0]; exact h.2.2.2.1, by rw [k0]; exact h.2.2.2.2⟩
  exact y_XF.cg h.1 k0 hB (fun i _ _ => ⟨k3 i, k4 i, rfl, rfl, rfl, rfl⟩) q
theorem y_XO.add {g s s' : z_M} {B c code grp hd mk kd bs : Int} (h : y_XO g s B c) (cs : z_CI s) (hn : g 19 6 = s 329 0) (m : y_MA s s' kd bs) (q : y_GS s s') (hB : B ≤ 200) (o : kd ≠ 7 ∨ B ≤ bs) (hc : grp < c) (hmk : 0 ≤ mk ∧ mk ≤ 3) (ct : y_CT (y_add g code grp hd mk 25) (s' 329 0)) : y_XO (y_add g code grp hd mk) s' B c := by
  have w := CI_b cs (k := 329) (j := 0) bd_329_0
  obtain ⟨m0, m1, m2, m3, m4, m5, m6, m7, m8⟩ := m
  obtain ⟨v1, v2, v3, v4, v5, v6, v7, v8, v9⟩ := y_add_v (g := g) (code := code) (grp := grp) (hd := hd) (mk := mk) ⟨by omega, by omega⟩
  have r := y_add_r (g := g) (code := code) (grp := grp) (hd := hd) (mk := mk) ⟨by omega, by omega⟩
  have v9' := v9
  rw [hn] at v7 v9 r
  refine ⟨?_, by rw [v2]; exact h.2.1, ct, y_CLB.ad h.2.2.2.1 m0 (by rw [v7]; exact hc) (fun i z => (v9 i z).2.2.1), by rw [v3]; exact h.2.2.2.2.1, fun i p z => ?_⟩
  rotate_left
  · by_cases y : i = s 329 0
    · rw [y, ← hn, v6]; exact hmk
    · rw [(v9 i (by omega)).2.1]; exact h.2.2.2.2.2 i p (by omega)
  have a := y_XF.ad (n' := s' 329 0) (kd' := s' 359) (bs' := s' 374) (cg' := y_add g code grp hd mk 25) (ch' := y_add g code grp hd mk 27) (cr' := y_add g code grp hd mk 29) (cl' := y_add g code grp hd mk 31) h.1 m0 (fun i _ z => ⟨(m8 i z).2.1, (m8 i z).2.2.1, (v9 i (by omega)).2.2.1, (v9 i (by omega)).2.2.2, (r.2 i (by omega)).1, (r.2 i (by omega)).2⟩) (by rw [m5, m6]; exact o)
  exact a.cg rfl (Int.le_refl _) (fun _ _ _ => ⟨rfl, rfl, rfl, rfl, rfl, rfl⟩) (fun b p z => ⟨q.1 b, q.2 (3020 + b) 0 (by omega) (by omega), q.2 (3020 + b) 10 (by omega) (by omega)⟩)
/-- the base B stands, too -/
theorem y_XO.done {g s : z_M} {B B' c gr d n : Int} (h : y_XO g s B c) (xc : y_XC g s B gr) (e : s 404 B = gr) (xq : y_XQ g s B d n) (hn : n ≠ 0) (hB : 0 ≤ B) (e' : B' = B + 1) : y_XO g s B' c := by
  subst e'
  refine ⟨fun i h0 h1 h2 h3 => ?_, h.2⟩
  by_cases z : s 374 i = B
  · have a := xc.2 i h0 h1 h2 z
    refine ⟨by omega, ?_, fun w => ?_⟩
    · show g 25 i = s 404 (s 374 i)
      rw [z, e]; exact a.1
    · show g 29 i % 16 = s (3020 + s 374 i) 0 ∧ g 31 i % 16 = s (3020 + s 374 i) 10 ∧ 1 ≤ s (3020 + s 374 i) 0
      rw [z]
      obtain ⟨x1, x2⟩ := xq.1 i h0 h1 h2 z w
      refine ⟨x1, x2, ?_⟩
      rcases xq.2.2.2 with rfl | rfl
      · have := (xq.2.1 rfl).2; omega
      · exact (xq.2.2.1 rfl).1
  · exact h.1 i h0 h1 h2 (by omega)
/-- what a base's reading changes in the reference's draft: the letters on side d, to v -/
def y_GV (s s' : z_M) (B d v : Int) : Prop := (∀ b, s' 404 b = s 404 b) ∧ s' (3020 + B) (10 * d) = v ∧ ∀ c b : Int, 3020 ≤ c → c ≤ 3219 → (c ≠ 3020 + B ∨ b ≠ 10 * d) → (b = 0 ∨ b = 10) → s' c b = s c b
theorem y_XO.gv {g s s' : z_M} {B c d v : Int} (h : y_XO g s B c) (hB : B ≤ 200) (k0 : s' 329 0 = s 329 0) (k3 : ∀ b, s' 359 b = s 359 b) (k4 : ∀ b, s' 374 b = s 374 b) (q : y_GV s s' B d v) : y_XO g s' B c :=
  h.s (Int.le_refl _) k0 k3 k4 (fun b p z => ⟨q.1 b, q.2.2 _ _ (by omega) (by omega) (Or.inl (by omega)) (Or.inl rfl), q.2.2 _ _ (by omega) (by omega) (Or.inl (by omega)) (Or.inr rfl)⟩)
theorem y_XC.s {g s s' : z_M} {B gr : Int} (h : y_XC g s B gr) (k0 : s' 329 0 = s 329 0) (k3 : ∀ b, s' 359 b = s 359 b) (k4 : ∀ b, s' 374 b = s 374 b) : y_XC g s' B gr := by
  unfold y_XC
  rw [k0, k4]
  exact ⟨h.1, fun i a b x y => h.2 i a b ((k3 i).symm.trans x) ((k4 i).symm.trans y)⟩
theorem y_X0.s {g s s' : z_M} {B : Int} (h : y_X0 g s B) (k0 : s' 329 0 = s 329 0) (k3 : ∀ b, s' 359 b = s 359 b) (k4 : ∀ b, s' 374 b = s 374 b) : y_X0 g s' B := fun i a b x y z => h i a (by omega) ((k3 i).symm.trans x) ((k4 i).symm.trans y) z
theorem y_XC.g {g g' s : z_M} {B gr : Int} (h : y_XC g s B gr) (k : ∀ a b : Int, a ≠ 32 → a ≠ 29 → a ≠ 31 → g' a b = g a b) (k5 : g' 32 5 = g 32 5) : y_XC g' s B gr := by
  unfold y_XC
  rw [k5]
  exact ⟨h.1, fun i a b x y => by rw [k 25 i (by decide) (by decide) (by decide), k 27 i (by decide) (by decide) (by decide)]; exact h.2 i a b x y⟩
/-- letters of the base that is being read -/
theorem y_XO.al {g g' s : z_M} {B c : Int} (h : y_XO g s B c) (xc : 0 ≤ g 32 5 ∧ g 32 5 < s 329 0 ∧ s 374 (g 32 5) = B) (k : ∀ a b : Int, a ≠ 32 → a ≠ 29 → a ≠ 31 → g' a b = g a b) (k2 : ∀ b : Int, b ≠ g 32 5 → g' 29 b = g 29 b ∧ g' 31 b = g 31 b) : y_XO g' s B c := by
  have e25 : g' 25 = g 25 := funext fun b => k _ _ (by decide) (by decide) (by decide)
  have e27 : g' 27 = g 27 := funext fun b => k _ _ (by decide) (by decide) (by decide)
  have e23 : g' 23 = g 23 := funext fun b => k _ _ (by decide) (by decide) (by decide)
  unfold y_XO
  rw [e25, e23, k 19 7 (by decide) (by decide) (by decide), k 19 8 (by decide) (by decide) (by decide)]
  refine ⟨fun i h0 h1 h2 h3 => ?_, h.2⟩
  have z : i ≠ g 32 5 := fun z => by rw [z, xc.2.2] at h3; omega
  have w := h.1 i h0 h1 h2 h3
  rw [e25, e27, (k2 i z).1, (k2 i z).2]
  exact w
theorem z_xor3 {x v : Int} (h : 0 ≤ x ∧ x ≤ 3) (hv : v = 1 ∨ v = 2) : 0 ≤ z_xor x v ∧ z_xor x v ≤ 3 := by
  rcases (show x = 0 ∨ x = 1 ∨ x = 2 ∨ x = 3 by omega) with rfl | rfl | rfl | rfl <;> rcases hv with rfl | rfl <;> decide +kernel
