/-! UNITS of the reference -/
def y_one (s : z_M) (i : Int) : Int := if s 346 i = 1 ∨ s 346 i = 2 then (if s 346 i = s 346 (i - 1) then 1 else 0) else if s 346 i = 7 ∧ s 361 i = s 361 (i - 1) then 1 else 0
def y_sS (s : z_M) (i : Int) : Int := if i ≤ 0 then 1 else 1 - y_one s i
theorem y_one_01 {s : z_M} {i : Int} : y_one s i = 0 ∨ y_one s i = 1 := by
  unfold y_one
  split
  · split
    · exact Or.inr rfl
    · exact Or.inl rfl
  · split
    · exact Or.inr rfl
    · exact Or.inl rfl
theorem y_sS_01 {s : z_M} : y_01 (y_sS s) := fun i => by
  unfold y_sS
  have := y_one_01 (s := s) (i := i)
  split
  · exact Or.inr rfl
  · omega
theorem y_sS_cg {s s' : z_M} (k : ∀ b, s' 346 b = s 346 b) (k2 : ∀ b, s' 361 b = s 361 b) : y_sS s' = y_sS s := by
  funext i
  unfold y_sS y_one
  rw [k, k, k2, k2]
theorem y_on_a {s : z_M} {i j x y : Int} (hk : s 346 i = 1 ∨ s 346 i = 2) (e : s 346 j = y) (hj : j = i - 1) (e2 : s 346 i = x) (h : x ≠ y) : 0 = y_one s i := by
  subst hj
  unfold y_one
  rw [if_pos hk, if_neg (by omega)]
theorem y_on_b {s : z_M} {i j x y : Int} (hk : s 346 i = 1 ∨ s 346 i = 2) (e : s 346 j = y) (hj : j = i - 1) (e2 : s 346 i = x) (h : x = y) : 1 = y_one s i := by
  subst hj
  unfold y_one
  rw [if_pos hk, if_pos (by omega)]
theorem y_on_c {s : z_M} {i : Int} (hk : s 346 i ≠ 1 ∧ s 346 i ≠ 2 ∧ s 346 i ≠ 7) : 0 = y_one s i := by
  unfold y_one
  rw [if_neg (by omega), if_neg (by omega)]
theorem y_on_d {s : z_M} {i j x y : Int} (hk : s 346 i = 7) (e : s 361 j = y) (hj : j = i - 1) (e2 : s 361 i = x) (h : x ≠ y) : 0 = y_one s i := by
  subst hj
  unfold y_one
  rw [if_neg (by omega), if_neg (by omega)]
theorem y_on_e {s : z_M} {i j x y : Int} (hk : s 346 i = 7) (e : s 361 j = y) (hj : j = i - 1) (e2 : s 361 i = x) (h : x = y) : 1 = y_one s i := by
  subst hj
  unfold y_one
  rw [if_neg (by omega), if_pos (by omega)]
/-- the first i signs of the reference's text, parted into n units -/
def y_PM (s : z_M) (n i : Int) : Prop := 0 ≤ i ∧ y_PT (y_sS s) (s 346) (s 3221) (s 3222) (s 3220) (s 3223) n i.toNat
theorem y_PM.z {s : z_M} {n i : Int} (e1 : n = 0) (e2 : i = 0) : y_PM s n i := by
  subst e1; subst e2
  exact ⟨Int.le_refl 0, y_PT.z⟩
theorem y_PM.cg {s : z_M} {n i n' i' : Int} (h : y_PM s n i) (e1 : n' = n) (e2 : i' = i) : y_PM s n' i' := by
  subst e1; subst e2; exact h
theorem y_PM.ag {s s' : z_M} {n i : Int} (h : y_PM s n i) (k : ∀ b, s' 346 b = s 346 b) (k2 : ∀ b, s' 361 b = s 361 b) (k0 : ∀ b, b < n → s' 3220 b = s 3220 b) (k1 : ∀ b, b < n → s' 3221 b = s 3221 b) (k3 : ∀ b, b < n → s' 3222 b = s 3222 b) (k4 : ∀ b, b < i → s' 3223 b = s 3223 b) : y_PM s' n i := by
  refine ⟨h.1, ?_⟩
  have q := h.2
  have e : s' 346 = s 346 := funext k
  rw [y_sS_cg k k2, e]
  have h0 := h.1
  exact q.fr y_sS_01 k1 k3 k0 (fun j hj => k4 j (by omega))
theorem y_PM.fr {s s' : z_M} {n i : Int} (h : y_PM s n i) (k : ∀ b, s' 346 b = s 346 b) (k2 : ∀ b, s' 361 b = s 361 b) (k0 : ∀ b, s' 3220 b = s 3220 b) (k1 : ∀ b, s' 3221 b = s 3221 b) (k3 : ∀ b, s' 3222 b = s 3222 b) (k4 : ∀ b, s' 3223 b = s 3223 b) : y_PM s' n i := h.ag k k2 (fun b _ => k0 b) (fun b _ => k1 b) (fun b _ => k3 b) (fun b _ => k4 b)
/-- a unit is begun, or goes on, at sign i -/
def y_PH (s : z_M) (n i : Int) : Prop := (y_PM s (n - 1) i ∧ s 3221 (n - 1) = i ∧ s 3222 (n - 1) = 0 ∧ s 3220 (n - 1) = s 346 i ∧ y_sS s i = 1 ∧ 1 ≤ n) ∨ (y_PM s n i ∧ y_sS s i = 0 ∧ 1 ≤ n)
theorem y_PH.n {s s' : z_M} {n n' i : Int} (h : y_PM s n i) (h1 : s 3221 n = i) (h2 : s 3222 n = 0) (h3 : s 3220 n = s 346 i) (h0 : 0 ≤ n) (g : i = 0 ∨ y_one s i = 0) (hn : n' = n + 1) (f : ∀ a b : Int, a ≠ 309 → s' a b = s a b) : y_PH s' n' i := by
  subst hn
  have hi := h.1
  refine Or.inl ⟨?_, ?_⟩
  · rw [show n + 1 - 1 = n by omega]
    exact h.fr (fun b => f 346 b (by decide)) (fun b => f 361 b (by decide)) (fun b => f 3220 b (by decide)) (fun b => f 3221 b (by decide)) (fun b => f 3222 b (by decide)) (fun b => f 3223 b (by decide))
  · rw [show n + 1 - 1 = n by omega, f 3221 _ (by decide), f 3222 _ (by decide), f 3220 _ (by decide), f 346 _ (by decide), y_sS_cg (fun b => f 346 b (by decide)) (fun b => f 361 b (by decide))]
    refine ⟨h1, h2, h3, ?_, by omega⟩
    unfold y_sS
    rcases g with g | g
    · rw [if_pos (by omega)]
    · rw [g]
      split <;> rfl
theorem y_PH.o {s : z_M} {n i : Int} (h : y_PM s n i) (h0 : 1 ≤ i) (h1 : 1 ≤ n) (g : y_one s i = 1) : y_PH s n i := by
  refine Or.inr ⟨h, ?_, h1⟩
  unfold y_sS
  rw [if_neg (by omega), g]; rfl
theorem y_PH.cg {s : z_M} {n i n' i' : Int} (h : y_PH s n i) (e1 : n' = n) (e2 : i' = i) : y_PH s n' i' := by
  subst e1; subst e2; exact h
/-- its length is told -/
def y_PI (s : z_M) (n i : Int) : Prop := (y_PM s (n - 1) i ∧ s 3221 (n - 1) = i ∧ s 3222 (n - 1) = 1 ∧ s 3220 (n - 1) = s 346 i ∧ y_sS s i = 1 ∧ 1 ≤ n) ∨
  (∃ z, 0 ≤ i ∧ y_PT (y_sS s) (s 346) (s 3221) z (s 3220) (s 3223) n i.toNat ∧ s 3222 (n - 1) = z (n - 1) + 1 ∧ (∀ b, b < n - 1 → s 3222 b = z b) ∧ y_sS s i = 0 ∧ 1 ≤ n)
theorem y_PI.mk {s s' : z_M} {n i j v : Int} (h : y_PH s n i) (g : ∀ a b : Int, a ≠ 3222 → s' a b = s a b) (g2 : ∀ b : Int, b ≠ j → s' 3222 b = s 3222 b) (e : s' 3222 j = v) (hj : j = n - 1) (hv : v = s 3222 j + 1) : y_PI s' n i := by
  subst hj; subst hv
  have es := y_sS_cg (s := s) (s' := s') (fun b => g 346 b (by decide)) (fun b => g 361 b (by decide))
  have e3 : s' 346 = s 346 := funext fun b => g 346 b (by decide)
  have e4 : s' 3221 = s 3221 := funext fun b => g 3221 b (by decide)
  have e5 : s' 3220 = s 3220 := funext fun b => g 3220 b (by decide)
  have e6 : s' 3223 = s 3223 := funext fun b => g 3223 b (by decide)
  rcases h with ⟨a1, a2, a3, a4, a5, a6⟩ | ⟨a1, a2, a3⟩
  · refine Or.inl ⟨a1.ag (fun b => g 346 b (by decide)) (fun b => g 361 b (by decide)) (fun b _ => g 3220 b (by decide)) (fun b _ => g 3221 b (by decide)) (fun b hb => g2 b (by omega)) (fun b _ => g 3223 b (by decide)), ?_⟩
    rw [es, e3, e4, e5, e]
    exact ⟨a2, by omega, a4, a5, a6⟩
  · refine Or.inr ⟨s 3222, a1.1, ?_⟩
    rw [es, e3, e4, e5, e6]
    exact ⟨a1.2, e, fun b hb => g2 b (by omega), a2, a3⟩
theorem y_PI.cg {s : z_M} {n i n' i' : Int} (h : y_PI s n i) (e1 : n' = n) (e2 : i' = i) : y_PI s n' i' := by
  subst e1; subst e2; exact h
theorem y_PM.mk {s s' : z_M} {n i i' j v : Int} (h : y_PI s n i) (g : ∀ a b : Int, a ≠ 3223 → s' a b = s a b) (g2 : ∀ b : Int, b ≠ j → s' 3223 b = s 3223 b) (e : s' 3223 j = v) (hj : j = i) (hv : v = n - 1) (hi : i' = i + 1) : y_PM s' n i' := by
  subst hj; subst hv; subst hi
  have es := y_sS_cg (s := s) (s' := s') (fun b => g 346 b (by decide)) (fun b => g 361 b (by decide))
  have e3 : s' 346 = s 346 := funext fun b => g 346 b (by decide)
  have e4 : s' 3221 = s 3221 := funext fun b => g 3221 b (by decide)
  have e5 : s' 3220 = s 3220 := funext fun b => g 3220 b (by decide)
  have e6 : s' 3222 = s 3222 := funext fun b => g 3222 b (by decide)
  rcases h with ⟨a1, a2, a3, a4, a5, a6⟩ | ⟨z, a1, a2, a3, a4, a5, a6⟩
  · obtain ⟨h0, q⟩ := a1
    refine ⟨by omega, ?_⟩
    rw [es, e3, e4, e5, e6, show (j + 1).toNat = j.toNat + 1 by omega]
    have ej : ((j.toNat : Nat) : Int) = j := by omega
    refine q.new y_sS_01 (by rw [ej]; exact a5) (by omega) (by rw [ej]; exact a2) (fun b _ => rfl) a3 (fun b _ => rfl) (by rw [ej]; exact a4) (fun b _ => rfl) (by rw [ej]; exact e) (fun b hb => g2 b (by omega))
  · refine ⟨by omega, ?_⟩
    rw [es, e3, e4, e5, e6, show (j + 1).toNat = j.toNat + 1 by omega]
    have ej : ((j.toNat : Nat) : Int) = j := by omega
    exact a2.inc (c1 := n - 1) (by rw [ej]; exact a5) rfl a6 (fun b _ => rfl) a3 a4 (fun b _ => rfl) (by rw [ej]; exact e) (fun b hb => g2 b (by omega)) y_sS_01
/-- the units are those of the text -/
def y_PU (s : z_M) : Prop := y_PM s (s 309 20) (s 316 0)
theorem y_PU.of {s : z_M} {n i : Int} (h : y_PM s n i) (e1 : s 309 20 = n) (e2 : s 316 0 = i) : y_PU s := h.cg e1 e2
theorem y_PU.fr {s s' : z_M} (h : y_PU s) (e1 : s' 309 20 = s 309 20) (e2 : s' 316 0 = s 316 0) (k : ∀ b, s' 346 b = s 346 b) (k2 : ∀ b, s' 361 b = s 361 b) (k0 : ∀ b, s' 3220 b = s 3220 b) (k1 : ∀ b, s' 3221 b = s 3221 b) (k3 : ∀ b, s' 3222 b = s 3222 b) (k4 : ∀ b, s' 3223 b = s 3223 b) : y_PU s' := by
  unfold y_PU
  rw [e1, e2]
  exact y_PM.fr h k k2 k0 k1 k3 k4
def y_O0 (s : z_M) (i : Int) : Prop := i = 0 ∨ y_one s i = 0
theorem y_O0.cg {s : z_M} {i i' : Int} (h : y_O0 s i) (e : i' = i) : y_O0 s i' := by subst e; exact h
theorem y_O0.fr {s s' : z_M} {i : Int} (h : y_O0 s i) (k : ∀ b, s' 346 b = s 346 b) (k2 : ∀ b, s' 361 b = s 361 b) : y_O0 s' i := by
  unfold y_O0 y_one at *
  rw [k, k, k2, k2]; exact h
theorem y_CF.PU {r s : z_M} {f t : Int} (c : y_CF r s f t 3 200) (ht : t ≠ 0) (h : y_PU r) (e : s 309 20 = r 309 20) (k0 : ∀ b, s 3220 b = r 3220 b) (k1 : ∀ b, s 3221 b = r 3221 b) (k3 : ∀ b, s 3222 b = r 3222 b) (k4 : ∀ b, s 3223 b = r 3223 b) : y_PU s := by
  have q := c.2.2 0 (by omega) (by omega) (Ne.symm ht)
  have e1 : (316 + 0 : Int) = 316 := by decide
  have e2 : (346 + 0 : Int) = 346 := by decide
  have e3 : (361 + 0 : Int) = 361 := by decide
  rw [e1, e2, e3] at q
  exact h.fr e (q 0).1 (fun b => (q b).2.2.1) (fun b => (q b).2.2.2.1) k0 k1 k3 k4
