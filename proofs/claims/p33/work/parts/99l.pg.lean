/-! pages, over T a b: how thick lines a to b are -/
def y_pe (T : Int → Int) (N w : Int) : Nat → Int → Int
  | 0, e => e
  | m + 1, e => if e + 1 < N ∧ T (e + 1) ≤ w then y_pe T N w m (e + 1) else e
theorem y_pe_s {T : Int → Int} {N w e : Int} {m : Nat} : y_pe T N w (m + 1) e = if e + 1 < N ∧ T (e + 1) ≤ w then y_pe T N w m (e + 1) else e := rfl
theorem y_pe_0 {T : Int → Int} {N w e : Int} : y_pe T N w 0 e = e := rfl
theorem y_pe_l {T : Int → Int} {N w : Int} : ∀ (m : Nat) (e : Int), e ≤ y_pe T N w m e := by
  intro m
  induction m with
  | zero => intro e; exact Int.le_refl _
  | succ m ih =>
    intro e
    rw [y_pe_s]
    split
    · have := ih (e + 1)
      omega
    · exact Int.le_refl _
theorem y_pe_p {T : Int → Int} {N w : Int} : ∀ (m : Nat) (e : Int), (m : Int) = N - 1 - e → y_pe T N w m e < N ∧ (∀ j : Int, e < j → j ≤ y_pe T N w m e → T j ≤ w) ∧ (y_pe T N w m e + 1 < N → w < T (y_pe T N w m e + 1)) := by
  intro m
  induction m with
  | zero =>
    intro e h
    rw [y_pe_0]
    exact ⟨by omega, fun j p q => by omega, fun q => by omega⟩
  | succ m ih =>
    intro e h
    rw [y_pe_s]
    by_cases c : e + 1 < N ∧ T (e + 1) ≤ w
    · rw [if_pos c]
      obtain ⟨a1, a2, a3⟩ := ih (e + 1) (by omega)
      refine ⟨a1, fun j p q => ?_, a3⟩
      by_cases z : j = e + 1
      · rw [z]; exact c.2
      · exact a2 j (by omega) q
    · rw [if_neg c]
      refine ⟨by omega, fun j p q => by omega, fun q => ?_⟩
      by_cases z : T (e + 1) ≤ w
      · exact absurd ⟨q, z⟩ c
      · omega
/-- the last line of the page that begins with line a -/
def y_pge (T : Int → Int → Int) (N w a : Int) : Int := y_pe (T a) N w (N - 1 - a).toNat a
theorem y_pge_l {T : Int → Int → Int} {N w a : Int} : a ≤ y_pge T N w a := y_pe_l _ _
theorem y_pge_p {T : Int → Int → Int} {N w a : Int} (h : a < N) : y_pge T N w a < N ∧ (∀ j : Int, a < j → j ≤ y_pge T N w a → T a j ≤ w) ∧ (y_pge T N w a + 1 < N → w < T a (y_pge T N w a + 1)) := y_pe_p _ _ (by omega)
theorem y_pge_u {T : Int → Int → Int} {N w a e : Int} (h : a ≤ e) (h2 : e < N) (h3 : ∀ j : Int, a < j → j ≤ e → T a j ≤ w) (h4 : e + 1 < N → w < T a (e + 1)) : y_pge T N w a = e := by
  have l := y_pge_l (T := T) (N := N) (w := w) (a := a)
  obtain ⟨p1, p2, p3⟩ := y_pge_p (T := T) (N := N) (w := w) (a := a) (by omega)
  rcases Int.lt_trichotomy (y_pge T N w a) e with z | z | z
  · have := p3 (by omega)
    have := h3 (y_pge T N w a + 1) (by omega) (by omega)
    omega
  · exact z
  · have := h4 (by omega)
    have := p2 (e + 1) (by omega) (by omega)
    omega
theorem y_pge_cg {T T' : Int → Int → Int} {N w a : Int} (h : a < N) (e : ∀ j : Int, a < j → j < N → T a j = T' a j) : y_pge T N w a = y_pge T' N w a := by
  obtain ⟨p1, p2, p3⟩ := y_pge_p (T := T') (N := N) (w := w) (a := a) h
  exact y_pge_u y_pge_l p1 (fun j p q => by rw [e j p (by omega)]; exact p2 j p q) (fun q => by rw [e _ (by have := y_pge_l (T := T') (N := N) (w := w) (a := a); omega) q]; exact p3 q)
/-- how many pages there are from line a on -/
def y_pn (E : Int → Int) (N : Int) : Nat → Int → Int
  | 0, _ => 0
  | m + 1, a => if a < N then 1 + y_pn E N m (E a + 1) else 0
theorem y_pn_s {E : Int → Int} {N a : Int} {m : Nat} : y_pn E N (m + 1) a = if a < N then 1 + y_pn E N m (E a + 1) else 0 := rfl
theorem y_pn_0 {E : Int → Int} {N a : Int} : y_pn E N 0 a = 0 := rfl
theorem y_pn_z {E : Int → Int} {N a : Int} (h : N ≤ a) : ∀ m : Nat, y_pn E N m a = 0 := by
  intro m
  cases m with
  | zero => rfl
  | succ m => rw [y_pn_s, if_neg (by omega)]
theorem y_pn_f {E : Int → Int} {N : Int} (hE : ∀ a : Int, a ≤ E a) : ∀ (m m' : Nat) (a : Int), N - a ≤ m → N - a ≤ m' → y_pn E N m a = y_pn E N m' a := by
  intro m
  induction m with
  | zero =>
    intro m' a h h'
    rw [y_pn_z (by omega), y_pn_z (by omega)]
  | succ m ih =>
    intro m' a h h'
    by_cases c : a < N
    · obtain ⟨m', rfl⟩ : ∃ k, m' = k + 1 := ⟨m' - 1, by omega⟩
      have := hE a
      rw [y_pn_s, y_pn_s, if_pos c, if_pos c, ih m' (E a + 1) (by omega) (by omega)]
    · rw [y_pn_z (by omega), y_pn_z (by omega)]
def y_pgc (E : Int → Int) (N a : Int) : Int := y_pn E N (N - a).toNat a
theorem y_pgc_s {E : Int → Int} {N a : Int} (hE : ∀ a : Int, a ≤ E a) (h : a < N) : y_pgc E N a = 1 + y_pgc E N (E a + 1) := by
  have l := hE a
  unfold y_pgc
  rw [show (N - a).toNat = (N - a - 1).toNat + 1 by omega, y_pn_s, if_pos h, y_pn_f hE (N - a - 1).toNat (N - (E a + 1)).toNat (E a + 1) (by omega) (by omega)]
theorem y_pgc_z {E : Int → Int} {N a : Int} (h : N ≤ a) : y_pgc E N a = 0 := y_pn_z h _
theorem y_pgc_b {E : Int → Int} {N : Int} (hE : ∀ a : Int, a ≤ E a) : ∀ (m : Nat) (a : Int), N - a ≤ m → 0 ≤ y_pgc E N a ∧ (a ≤ N → y_pgc E N a ≤ N - a) := by
  intro m
  induction m with
  | zero =>
    intro a h
    rw [y_pgc_z (by omega)]
    omega
  | succ m ih =>
    intro a h
    by_cases c : a < N
    · have l := hE a
      have i := ih (E a + 1) (by omega)
      rw [y_pgc_s hE c]
      by_cases d : E a + 1 ≤ N
      · have := i.2 d
        omega
      · rw [y_pgc_z (a := E a + 1) (by omega)]
        omega
    · rw [y_pgc_z (by omega)]
      omega
theorem y_pgc_cg {E E' : Int → Int} {N : Int} (hE : ∀ a : Int, a ≤ E a) (hE' : ∀ a : Int, a ≤ E' a) (e : ∀ a : Int, 0 ≤ a → a < N → E a = E' a) : ∀ (m : Nat) (a : Int), N - a ≤ m → 0 ≤ a → y_pgc E N a = y_pgc E' N a := by
  intro m
  induction m with
  | zero =>
    intro a h _
    rw [y_pgc_z (by omega), y_pgc_z (by omega)]
  | succ m ih =>
    intro a h h0
    by_cases c : a < N
    · have l := hE' a
      rw [y_pgc_s hE c, y_pgc_s hE' c, e a h0 c, ih (E' a + 1) (by omega) (by omega)]
    · rw [y_pgc_z (by omega), y_pgc_z (by omega)]
/-- where page k begins -/
def y_ps (E : Int → Int) : Nat → Int
  | 0 => 0
  | k + 1 => E (y_ps E k) + 1
theorem y_ps_s {E : Int → Int} {k : Nat} : y_ps E (k + 1) = E (y_ps E k) + 1 := rfl
theorem y_ps_0 {E : Int → Int} : y_ps E 0 = 0 := rfl
theorem y_ps_l {E : Int → Int} (hE : ∀ a : Int, a ≤ E a) : ∀ k : Nat, (k : Int) ≤ y_ps E k := by
  intro k
  induction k with
  | zero => exact Int.le_refl 0
  | succ k ih =>
    have := hE (y_ps E k)
    rw [y_ps_s]
    omega
theorem y_ps_m {E : Int → Int} (hE : ∀ a : Int, a ≤ E a) : ∀ (m k : Nat), y_ps E k ≤ y_ps E (k + m) := by
  intro m
  induction m with
  | zero => intro k; exact Int.le_refl _
  | succ m ih =>
    intro k
    have := ih k
    have := hE (y_ps E (k + m))
    rw [show k + (m + 1) = k + m + 1 by omega, y_ps_s]
    omega
theorem y_ps_c {E : Int → Int} {N : Int} (hE : ∀ a : Int, a ≤ E a) : ∀ k : Nat, (∀ i : Nat, i < k → y_ps E i < N) → y_pgc E N 0 = k + y_pgc E N (y_ps E k) := by
  intro k
  induction k with
  | zero =>
    intro _
    rw [y_ps_0]
    omega
  | succ k ih =>
    intro h
    have a := ih (fun i p => h i (by omega))
    have b := y_pgc_s hE (h k (by omega))
    rw [y_ps_s]
    omega
theorem y_ps_lt {E : Int → Int} {N : Int} (hE : ∀ a : Int, a ≤ E a) (k : Nat) : y_ps E k < N ↔ (k : Int) < y_pgc E N 0 := by
  have key : ∀ j : Nat, (∀ i : Nat, i < j → y_ps E i < N) ∨ ∃ i : Nat, i < j ∧ N ≤ y_ps E i ∧ ∀ i' : Nat, i' < i → y_ps E i' < N := by
    intro j
    induction j with
    | zero => exact Or.inl (fun i p => by omega)
    | succ j ih =>
      rcases ih with ih | ⟨i, p, q, r⟩
      · by_cases z : y_ps E j < N
        · refine Or.inl (fun i p => ?_)
          by_cases e : i = j
          · rw [e]; exact z
          · exact ih i (by omega)
        · exact Or.inr ⟨j, by omega, by omega, ih⟩
      · exact Or.inr ⟨i, by omega, q, r⟩
  constructor
  · intro h
    have al : ∀ i : Nat, i < k → y_ps E i < N := fun i p => by
      have := y_ps_m hE (k - i) i
      rw [show i + (k - i) = k by omega] at this
      omega
    have c := y_ps_c hE k al
    have s := y_pgc_s hE h
    have b := (y_pgc_b (N := N) hE (N - (E (y_ps E k) + 1)).toNat (E (y_ps E k) + 1) (by omega)).1
    omega
  · intro h
    rcases key (k + 1) with a | ⟨i, p, q, r⟩
    · exact a k (by omega)
    · have c := y_ps_c hE i r
      rw [y_pgc_z q] at c
      omega
/-- wider pages are not more -/
theorem y_pgc_w {T : Int → Int → Int} {N w w' : Int} (hT : ∀ a a' j : Int, 0 ≤ a → a ≤ a' → a' < j → j < N → T a' j ≤ T a j) (hw : w ≤ w') : ∀ (m : Nat) (a a' : Int), N - a ≤ m → 0 ≤ a → a ≤ a' → y_pgc (y_pge T N w') N a' ≤ y_pgc (y_pge T N w) N a := by
  have l1 : ∀ a : Int, a ≤ y_pge T N w a := fun a => y_pge_l
  have l2 : ∀ a : Int, a ≤ y_pge T N w' a := fun a => y_pge_l
  intro m
  induction m with
  | zero =>
    intro a a' h h0 h1
    rw [y_pgc_z (a := a') (by omega)]
    exact (y_pgc_b (N := N) l1 0 a (by omega)).1
  | succ m ih =>
    intro a a' h h0 h1
    by_cases c : a' < N
    · have e1 := y_pge_p (T := T) (N := N) (w := w) (a := a) (by omega)
      have e2 := y_pge_p (T := T) (N := N) (w := w') (a := a') c
      have la := l1 a
      have la' := l2 a'
      have le : y_pge T N w a ≤ y_pge T N w' a' := by
        by_cases z : y_pge T N w a ≤ y_pge T N w' a'
        · exact z
        · have x1 := e2.2.2 (by omega)
          have x2 := e1.2.1 (y_pge T N w' a' + 1) (by omega) (by omega)
          have x3 := hT a a' (y_pge T N w' a' + 1) h0 h1 (by omega) (by omega)
          omega
      rw [y_pgc_s l2 c, y_pgc_s l1 (by omega)]
      have := ih (y_pge T N w a + 1) (y_pge T N w' a' + 1) (by omega) (by omega) (by omega)
      omega
    · rw [y_pgc_z (a := a') (by omega)]
      exact (y_pgc_b (N := N) l1 (N - a).toNat a (by omega)).1
/-- the least width by which there are no more than p pages -/
def y_nrw (C : Int → Int) (p x : Int) : Prop := (x = -1 ∧ ∀ w : Int, 12 ≤ w → w ≤ 9999 → p < C w) ∨ (12 ≤ x ∧ x ≤ 9999 ∧ C x ≤ p ∧ ∀ w : Int, 12 ≤ w → w < x → p < C w)
theorem y_nrw.eq {C C' : Int → Int} {p x x' : Int} (e : ∀ w : Int, 12 ≤ w → w ≤ 9999 → C w = C' w) (h : y_nrw C p x) (h' : y_nrw C' p x') : x = x' := by
  rcases h with ⟨a, b⟩ | ⟨a, b, c, d⟩
  · rcases h' with ⟨a', b'⟩ | ⟨a', b', c', d'⟩
    · rw [a, a']
    · have := b x' a' b'
      rw [e x' a' b'] at this
      omega
  · rcases h' with ⟨a', b'⟩ | ⟨a', b', c', d'⟩
    · have := b' x a b
      rw [e x a b] at c
      omega
    · rcases Int.lt_trichotomy x x' with z | z | z
      · have := d' x a z
        rw [e x a b] at c
        omega
      · exact z
      · have := d x' a' z
        rw [e x' a' b'] at this
        omega
/-- lines a to b, by gutters and outer sides -/
def y_THi (G oR oL : Int → Int) (a b : Int) : Int := 12 * (b - a + 1) + y_su G a b + oR a + oL b
theorem y_THi_s {G oR oL : Int → Int} {a b : Int} (h : a ≤ b) : y_THi G oR oL a (b + 1) = y_THi G oR oL a b + 12 + G b + oL (b + 1) - oL b := by
  unfold y_THi
  rw [y_suS h]
  omega
theorem y_THi_m {G oR oL : Int → Int} {N : Int} (hG : ∀ i : Int, 0 ≤ i → i + 1 < N → 0 ≤ G i) (hR : ∀ i : Int, 0 ≤ i → i < N → 0 ≤ oR i ∧ oR i ≤ 6) : ∀ (m : Nat) (a a' j : Int), (m : Int) = a' - a → 0 ≤ a → a' < j → j < N → y_THi G oR oL a' j ≤ y_THi G oR oL a j := by
  intro m
  induction m with
  | zero =>
    intro a a' j e _ _ _
    rw [show a' = a by omega]
    exact Int.le_refl _
  | succ m ih =>
    intro a a' j e h0 h1 h2
    have i := ih a (a' - 1) j (by omega) h0 (by omega) h2
    have s := y_su_pt (f := G) (a := a' - 1) (x := a' - 1 + 1) (y := j) (by omega) (by omega)
    have s1 := y_suS (f := G) (a := a' - 1) (u := a' - 1) (Int.le_refl _)
    rw [y_su0] at s1
    have g := hG (a' - 1) (by omega) (by omega)
    have r := hR (a' - 1) (by omega) (by omega)
    have r2 := hR a' (by omega) (by omega)
    rw [show a' - 1 + 1 = a' by omega] at s s1
    unfold y_THi at *
    omega
theorem y_THi_cg {G G' oR oR' oL oL' : Int → Int} {N a b : Int} (h0 : 0 ≤ a) (h1 : a ≤ b) (h2 : b < N) (hG : ∀ i : Int, 0 ≤ i → i + 1 < N → G i = G' i) (hR : ∀ i : Int, 0 ≤ i → i < N → oR i = oR' i) (hL : ∀ i : Int, 0 ≤ i → i < N → oL i = oL' i) : y_THi G oR oL a b = y_THi G' oR' oL' a b := by
  unfold y_THi
  rw [y_su_cg (f := G) (g := G') (fun i p q => hG i (by omega) (by omega)), hR a h0 (by omega), hL b (by omega) h2]
