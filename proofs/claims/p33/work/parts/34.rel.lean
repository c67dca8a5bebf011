/-! SAFETY, 3: what holds between the reference's numbers -/
theorem z_wx {e x : Int} (h : z_w e = x) (b : -2147483648 ≤ e ∧ e ≤ 2147483647) : x = e := by
  have := z_wb h; omega
theorem z_Fr.eq {R : Int → Int → Prop} {r s : z_M} (h : ∀ a b, ¬ R a b) (f : z_Fr R r s) : r = s := (funext fun a => funext fun b => f a b (h a b)).symm
theorem z_cg (s : z_M) (k a b : Int) : a ≠ b ∨ s k a = s k b := by
  by_cases h : a = b
  · exact Or.inr (by rw [h])
  · exact Or.inl h
theorem z_bde (k j : Int) : z_bd k j = ((z_bd k j).1, (z_bd k j).2) := rfl
/-- the kept texts: their signs that are bases have a base; no more bases than signs -/
def y_TA (s : z_M) : Prop := ∀ t : Int, 0 ≤ t → t ≤ 12 → s (316 + t) 1 ≤ s (316 + t) 0 ∧ ∀ i : Int, 0 ≤ i → i < s (316 + t) 0 → s (346 + t) i = 7 → 0 ≤ s (361 + t) i
theorem y_TA.fr {s s' : z_M} (h : y_TA s) (k1 : ∀ a b : Int, 316 ≤ a ∧ a ≤ 328 → s' a b = s a b) (k2 : ∀ a b : Int, 346 ≤ a ∧ a ≤ 358 → s' a b = s a b) (k3 : ∀ a b : Int, 361 ≤ a ∧ a ≤ 373 → s' a b = s a b) : y_TA s' := fun t h0 h1 => by
  rw [k1 (316 + t) 1 (by omega), k1 (316 + t) 0 (by omega)]
  refine ⟨(h t h0 h1).1, fun i a b e => ?_⟩
  rw [k2 _ _ (by omega)] at e
  rw [k3 _ _ (by omega)]
  exact (h t h0 h1).2 i a b e
theorem y_TA.at0 {s : z_M} (h : y_TA s) {i : Int} (h0 : 0 ≤ i) (h1 : i < s 316 0) : s 346 i ≠ 7 ∨ 0 ≤ s 361 i := by
  have q := (h 0 (by omega) (by omega)).2 i h0
  simp only [Int.add_zero] at q
  by_cases e : s 346 i = 7
  · exact Or.inr (q h1 e)
  · exact Or.inl e
theorem y_TA.h0 {s : z_M} (h : y_TA s) : s 316 1 ≤ s 316 0 := by
  have q := (h 0 (by omega) (by omega)).1
  simp only [Int.add_zero] at q
  exact q
def y_D (s : z_M) (m : Int) : Prop := ∀ i : Int, 0 ≤ i → i < m → s 359 i = 7 → 0 ≤ s 374 i
theorem y_D.fr {s s' : z_M} {m : Int} (h : y_D s m) (k1 : ∀ b, s' 359 b = s 359 b) (k2 : ∀ b, s' 374 b = s 374 b) : y_D s' m := fun i a b e => by
  rw [k1] at e; rw [k2]; exact h i a b e
theorem y_D.cg {s : z_M} {m m' : Int} (h : y_D s m) (e : m' ≤ m) : y_D s m' := fun i a b => h i a (by omega)
theorem y_D.z {s : z_M} {m : Int} (e : m ≤ 0) : y_D s m := fun i a b => by omega
theorem y_D.st {s s' : z_M} {m : Int} (h : y_D s m) (k1 : ∀ b, b < m → s' 359 b = s 359 b) (k2 : ∀ b, b < m → s' 374 b = s 374 b) : y_D s' m := fun i a b e => by
  rw [k1 i b] at e; rw [k2 i b]; exact h i a b e
theorem y_D.ex {s : z_M} {m m' : Int} (h : y_D s m) (e : s 359 m ≠ 7 ∨ 0 ≤ s 374 m) (hm : m' = m + 1) : y_D s m' := fun i a b q => by
  by_cases r : i = m
  · subst r; omega
  · exact h i a (by omega) q
def y_DD (s : z_M) : Prop := s 329 1 ≤ s 329 0 ∧ y_D s (s 329 0)
theorem y_DD.fr {s s' : z_M} (h : y_DD s) (e0 : s' 329 0 = s 329 0) (e1 : s' 329 1 = s 329 1) (k1 : ∀ b, s' 359 b = s 359 b) (k2 : ∀ b, s' 374 b = s 374 b) : y_DD s' := by
  refine ⟨by rw [e0, e1]; exact h.1, ?_⟩
  rw [e0]; exact h.2.fr k1 k2
/-- text t is a copy of text f of r, as far as n of its counts, m of its signs -/
def y_CP (r s : z_M) (f t n m : Int) : Prop := (∀ b : Int, 0 ≤ b → b < n → b < 2 → s (316 + t) b = r (316 + f) b) ∧ (∀ b : Int, 0 ≤ b → b < m → s (346 + t) b = r (346 + f) b ∧ s (361 + t) b = r (361 + f) b) ∧ ∀ u : Int, 0 ≤ u → u ≤ 13 → u ≠ t → ∀ b, s (316 + u) b = r (316 + u) b ∧ s (346 + u) b = r (346 + u) b ∧ s (361 + u) b = r (361 + u) b
theorem y_CP.z {r : z_M} {f t n m : Int} (hn : n ≤ 0) (hm : m ≤ 0) : y_CP r r f t n m := ⟨fun b _ _ _ => by omega, fun b _ _ => by omega, fun u _ _ _ b => ⟨rfl, rfl, rfl⟩⟩
theorem y_CP.cg {r s : z_M} {f t n m n' m' : Int} (h : y_CP r s f t n m) (e1 : n' ≤ n) (e2 : m' ≤ m) : y_CP r s f t n' m' := ⟨fun b a c => h.1 b a (by omega), fun b a c => h.2.1 b a (by omega), h.2.2⟩
theorem y_CP.fr {r s s' : z_M} {f t n m : Int} (ht : 0 ≤ t ∧ t ≤ 13) (h : y_CP r s f t n m) (k1 : ∀ a b : Int, 316 ≤ a ∧ a ≤ 329 → s' a b = s a b) (k2 : ∀ a b : Int, 346 ≤ a ∧ a ≤ 359 → s' a b = s a b) (k3 : ∀ a b : Int, 361 ≤ a ∧ a ≤ 374 → s' a b = s a b) : y_CP r s' f t n m := by
  refine ⟨fun b a c d => ?_, fun b a c => ?_, fun u a c d b => ?_⟩
  · rw [k1 _ _ (by omega)]; exact h.1 b a c d
  · rw [k2 _ _ (by omega), k3 _ _ (by omega)]; exact h.2.1 b a c
  · rw [k1 _ _ (by omega), k2 _ _ (by omega), k3 _ _ (by omega)]; exact h.2.2 u a c d b
theorem y_CP.st {r s s' : z_M} {f t n m : Int} (ht : 0 ≤ t ∧ t ≤ 13) (h : y_CP r s f t n m) (k1 : ∀ b : Int, b < n → s' (316 + t) b = s (316 + t) b) (k2 : ∀ b : Int, b < m → s' (346 + t) b = s (346 + t) b) (k3 : ∀ b : Int, b < m → s' (361 + t) b = s (361 + t) b) (g : ∀ a b : Int, a ≠ 316 + t → a ≠ 346 + t → a ≠ 361 + t → s' a b = s a b) : y_CP r s' f t n m := by
  refine ⟨fun b a c d => ?_, fun b a c => ?_, fun u a c d b => ?_⟩
  · rw [k1 _ c]; exact h.1 b a c d
  · rw [k2 _ c, k3 _ c]; exact h.2.1 b a c
  · rw [g _ _ (by omega) (by omega) (by omega), g _ _ (by omega) (by omega) (by omega), g _ _ (by omega) (by omega) (by omega)]; exact h.2.2 u a c d b
theorem y_CP.src {r s : z_M} {f t n m : Int} (h : y_CP r s f t n m) (hf : 0 ≤ f ∧ f ≤ 13) (hne : f ≠ t) (b : Int) : s (316 + f) b = r (316 + f) b ∧ s (346 + f) b = r (346 + f) b ∧ s (361 + f) b = r (361 + f) b := h.2.2 f hf.1 hf.2 hne b
theorem y_CP.exn {r s : z_M} {f t n m n' : Int} (h : y_CP r s f t n m) (e : s (316 + t) n = r (316 + f) n) (hn : n' = n + 1) : y_CP r s f t n' m := by
  refine ⟨fun b a c d => ?_, h.2.1, h.2.2⟩
  by_cases q : b = n
  · rw [q]; exact e
  · exact h.1 b a (by omega) d
theorem y_CP.exm {r s : z_M} {f t n m m' : Int} (h : y_CP r s f t n m) (e1 : s (346 + t) m = r (346 + f) m) (e2 : s (361 + t) m = r (361 + f) m) (hm : m' = m + 1) : y_CP r s f t n m' := by
  refine ⟨h.1, fun b a c => ?_, h.2.2⟩
  by_cases q : b = m
  · rw [q]; exact ⟨e1, e2⟩
  · exact h.2.1 b a (by omega)
theorem z_bd_head {t j : Int} (h : 0 ≤ t ∧ t ≤ 13) (hj : j = 0 ∨ j = 1) : z_bd (316 + t) j = (0, 200) := by
  unfold z_bd
  repeat (first | rw [if_neg (by omega)] | rw [if_pos (by omega)])
theorem y_CP.TA {r s : z_M} {f t : Int} (h : y_CP r s f t 3 200) (c : z_CI r) (hf : 0 ≤ f ∧ f ≤ 12) (ta : y_TA r) : y_TA s := fun u h0 h1 => by
  by_cases e : u = t
  · subst e
    rw [h.1 1 (by omega) (by omega) (by omega), h.1 0 (by omega) (by omega) (by omega)]
    have w := CI_b c (k := 316 + f) (j := 0) (z_bd_head (by omega) (Or.inl rfl))
    refine ⟨(ta f hf.1 hf.2).1, fun i a b q => ?_⟩
    obtain ⟨q1, q2⟩ := h.2.1 i a (by omega)
    rw [q1] at q; rw [q2]
    exact (ta f hf.1 hf.2).2 i a b q
  · rw [(h.2.2 u h0 (by omega) e 1).1, (h.2.2 u h0 (by omega) e 0).1]
    refine ⟨(ta u h0 h1).1, fun i a b q => ?_⟩
    obtain ⟨_, q1, q2⟩ := h.2.2 u h0 (by omega) e i
    rw [q1] at q; rw [q2]
    exact (ta u h0 h1).2 i a b q
theorem y_CP.DDk {r s : z_M} {f t : Int} (h : y_CP r s f t 3 200) (ht : t ≠ 13) (d : y_DD r) : y_DD s := by
  have q := h.2.2 13 (by omega) (by omega) (by omega)
  have e : (316 + 13 : Int) = 329 := by decide
  have e2 : (346 + 13 : Int) = 359 := by decide
  have e3 : (361 + 13 : Int) = 374 := by decide
  rw [e, e2, e3] at q
  exact d.fr (q 0).1 (q 1).1 (fun b => (q b).2.1) (fun b => (q b).2.2)
theorem y_CP.DD {r s : z_M} {f : Int} (h : y_CP r s f 13 3 200) (c : z_CI r) (hf : 0 ≤ f ∧ f ≤ 12) (ta : y_TA r) : y_DD s := by
  have q1 := h.1 1 (by omega) (by omega) (by omega)
  have q0 := h.1 0 (by omega) (by omega) (by omega)
  have w := CI_b c (k := 316 + f) (j := 0) (z_bd_head (by omega) (Or.inl rfl))
  have p := h.2.1
  have e : (316 + 13 : Int) = 329 := by decide
  have e2 : (346 + 13 : Int) = 359 := by decide
  have e3 : (361 + 13 : Int) = 374 := by decide
  rw [e] at q1 q0
  rw [e2, e3] at p
  refine ⟨by rw [q1, q0]; exact (ta f hf.1 hf.2).1, fun i a b q => ?_⟩
  rw [q0] at b
  obtain ⟨g1, g2⟩ := p i a (by omega)
  rw [g1] at q; rw [g2]
  exact (ta f hf.1 hf.2).2 i a b q
theorem y_CP.TAd {r s : z_M} {t : Int} (h : y_CP r s 13 t 3 200) (c : z_CI r) (ta : y_TA r) (d : y_DD r) : y_TA s := fun u h0 h1 => by
  have e : (316 + 13 : Int) = 329 := by decide
  have e2 : (346 + 13 : Int) = 359 := by decide
  have e3 : (361 + 13 : Int) = 374 := by decide
  have h' := h.2.2
  by_cases q : u = t
  · subst q
    have q1 := h.1 1 (by omega) (by omega) (by omega)
    have q0 := h.1 0 (by omega) (by omega) (by omega)
    have p := h.2.1
    have w := CI_b c (k := 316 + 13) (j := 0) (z_bd_head (by omega) (Or.inl rfl))
    rw [e] at q1 q0 w
    rw [e2, e3] at p
    rw [q1, q0]
    refine ⟨d.1, fun i a b q => ?_⟩
    obtain ⟨g1, g2⟩ := p i a (by omega)
    rw [g1] at q; rw [g2]
    exact d.2 i a b q
  · rw [(h' u h0 (by omega) q 1).1, (h' u h0 (by omega) q 0).1]
    refine ⟨(ta u h0 h1).1, fun i a b q9 => ?_⟩
    obtain ⟨_, q1, q2⟩ := h' u h0 (by omega) q i
    rw [q1] at q9; rw [q2]
    exact (ta u h0 h1).2 i a b q9
/-- the units: n of them, over i signs -/
def y_Q (s : z_M) (n i : Int) : Prop := (n = 0 → i = 0) ∧ (∀ u : Int, u + 1 = n → 0 ≤ u → s 3221 u + s 3222 u = i) ∧ ∀ u : Int, 0 ≤ u → u < n → (s 3220 u = 7 → 0 ≤ s 361 (s 3221 u)) ∧ s 3221 u + s 3222 u ≤ i ∧ (u + 1 < n → s 3221 u + s 3222 u ≤ s 3221 (u + 1))
theorem y_Q.cg {s : z_M} {n i n' i' : Int} (h : y_Q s n i) (e1 : n' = n) (e2 : i' = i) : y_Q s n' i' := by
  subst e1; subst e2; exact h
theorem y_Q.z {s : z_M} {n i : Int} (e1 : n = 0) (e2 : i = 0) : y_Q s n i := ⟨fun _ => e2, fun u _ _ => by omega, fun u _ _ => by omega⟩
theorem y_Q.ag {s s' : z_M} {n i : Int} (h : y_Q s n i) (k0 : ∀ b, b < n → s' 3220 b = s 3220 b) (k1 : ∀ b, b < n → s' 3221 b = s 3221 b) (k2 : ∀ b, b < n → s' 3222 b = s 3222 b) (k3 : ∀ b, s' 361 b = s 361 b) : y_Q s' n i := by
  refine ⟨h.1, fun u a b => ?_, fun u a b => ?_⟩
  · rw [k1 u (by omega), k2 u (by omega)]; exact h.2.1 u a b
  · rw [k0 u b, k1 u b, k2 u b, k3]
    refine ⟨(h.2.2 u a b).1, (h.2.2 u a b).2.1, fun q => ?_⟩
    rw [k1 _ q]; exact (h.2.2 u a b).2.2 q
theorem y_Q.fr {s s' : z_M} {n i : Int} (h : y_Q s n i) (k0 : ∀ b, s' 3220 b = s 3220 b) (k1 : ∀ b, s' 3221 b = s 3221 b) (k2 : ∀ b, s' 3222 b = s 3222 b) (k3 : ∀ b, s' 361 b = s 361 b) : y_Q s' n i := h.ag (fun b _ => k0 b) (fun b _ => k1 b) (fun b _ => k2 b) k3
theorem y_Q.new {s : z_M} {n i n' : Int} (h : y_Q s n i) (hn : 0 ≤ n) (h1 : s 3221 n = i) (h2 : s 3222 n = 0) (h3 : s 3220 n ≠ 7 ∨ 0 ≤ s 361 i) (e : n' = n + 1) : y_Q s n' i := by
  subst e
  refine ⟨fun q => by omega, fun u a b => ?_, fun u a b => ?_⟩
  · have : u = n := by omega
    subst this; omega
  · by_cases q : u = n
    · subst q
      refine ⟨fun r => ?_, by omega, fun r => by omega⟩
      rw [h1]
      exact h3.resolve_left (fun z => z r)
    · obtain ⟨a1, a2, a3⟩ := h.2.2 u a (by omega)
      refine ⟨a1, a2, fun r => ?_⟩
      by_cases q2 : u + 1 = n
      · rw [q2, h1]; exact a2
      · exact a3 (by omega)
theorem y_Q.inc {s s' : z_M} {n i i' j v : Int} (h : y_Q s n i) (h1 : 1 ≤ n) (g : ∀ a b : Int, a ≠ 3222 → s' a b = s a b) (g2 : ∀ b : Int, b ≠ j → s' 3222 b = s 3222 b) (e : s' 3222 j = v) (hj : j = n - 1) (hv : v = s 3222 j + 1) (hi : i' = i + 1) : y_Q s' n i' := by
  subst hi
  have l := h.2.1 j (by omega) (by omega)
  refine ⟨fun q => by omega, fun u a b => ?_, fun u a b => ?_⟩
  · have : u = j := by omega
    subst this
    rw [g 3221 u (by decide), e]; omega
  · obtain ⟨a1, a2, a3⟩ := h.2.2 u a b
    rw [g 3220 u (by decide), g 3221 u (by decide), g 361 _ (by decide), g 3221 (u + 1) (by decide)]
    by_cases q : u = j
    · subst q
      rw [e]
      exact ⟨a1, by omega, fun r => by omega⟩
    · rw [g2 u q]
      exact ⟨a1, by omega, a3⟩
theorem y_Q.last {s : z_M} {n i u : Int} (h : y_Q s n i) (h1 : 1 ≤ n) (hu : u = n - 1) : s 3221 u + s 3222 u = i := h.2.1 u (by omega) (by omega)
def y_B (s : z_M) : Prop := y_Q s (s 309 20) (s 316 0)
theorem y_B.fr {s s' : z_M} (h : y_B s) (e1 : s' 309 20 = s 309 20) (e2 : s' 316 0 = s 316 0) (k0 : ∀ b, s' 3220 b = s 3220 b) (k1 : ∀ b, s' 3221 b = s 3221 b) (k2 : ∀ b, s' 3222 b = s 3222 b) (k3 : ∀ b, s' 361 b = s 361 b) : y_B s' := by
  show y_Q s' (s' 309 20) (s' 316 0)
  rw [e1, e2]; exact y_Q.fr h k0 k1 k2 k3
theorem y_B.of {s : z_M} {n i : Int} (h : y_Q s n i) (e1 : s 309 20 = n) (e2 : s 316 0 = i) : y_B s := by
  show y_Q s (s 309 20) (s 316 0)
  rw [e1, e2]; exact h
theorem y_B.at {s : z_M} (h : y_B s) {u : Int} (h0 : 0 ≤ u) (h1 : u < s 309 20) : s 3221 u + s 3222 u ≤ s 316 0 := (h.2.2 u h0 h1).2.1
theorem y_B.nx {s : z_M} (h : y_B s) {u v : Int} (h0 : 0 ≤ u) (hv : v = u + 1) (h1 : v < s 309 20) : s 3221 u + s 3222 u ≤ s 3221 v := by
  subst hv; exact (h.2.2 u h0 (by omega)).2.2 h1
theorem y_B.b7 {s : z_M} (h : y_B s) {u x y : Int} (h0 : 0 ≤ u) (h1 : u < s 309 20) (h7 : s 3220 u = 7) (e3 : s 3221 u = x) (e4 : s 361 x = y) : 0 ≤ y := by
  rw [← e4, ← e3]; exact (h.2.2 u h0 h1).1 h7
/-- the group of a unit -/
def y_gp (s : z_M) (u : Int) : Int := if s 3220 u = 7 then s 391 (s 361 (s 3221 u)) else -1
/-- a run of numbers in the array c, each less than the next, all less than a -/
def y_LP (s : z_M) (c n a : Int) : Prop := 0 ≤ n ∧ n ≤ a ∧ (∀ i : Int, 0 ≤ i → i + 1 < n → s c i + 1 ≤ s c (i + 1)) ∧ ∀ i : Int, 0 ≤ i → i < n → s c i + 1 ≤ a
def y_LL (s : z_M) (c n m : Int) : Prop := 0 ≤ n ∧ n ≤ m ∧ (∀ i : Int, 0 ≤ i → i < n → s c i + 1 ≤ s c (i + 1)) ∧ ∀ i : Int, 0 ≤ i → i ≤ n → s c i ≤ m
theorem y_LP.fr {s s' : z_M} {c n a : Int} (h : y_LP s c n a) (k : ∀ b, s' c b = s c b) : y_LP s' c n a := by
  refine ⟨h.1, h.2.1, fun i p q => ?_, fun i p q => ?_⟩
  · rw [k, k]; exact h.2.2.1 i p q
  · rw [k]; exact h.2.2.2 i p q
theorem y_LP.cg {s : z_M} {c n a n' a' : Int} (h : y_LP s c n a) (e1 : n' = n) (e2 : a ≤ a') : y_LP s c n' a' := by
  subst e1
  exact ⟨h.1, by have := h.2.1; omega, h.2.2.1, fun i p q => by have := h.2.2.2 i p q; omega⟩
theorem y_LP.z {s : z_M} {c n a : Int} (e : n = 0) (ha : 0 ≤ a) : y_LP s c n a := ⟨by omega, by omega, fun i p q => by omega, fun i p q => by omega⟩
theorem y_LP.st {s s' : z_M} {c n a j v n' a' : Int} (h : y_LP s c n a) (g2 : ∀ b : Int, b ≠ j → s' c b = s c b) (e : s' c j = v) (hj : j = n) (hv : v = a) (hn : n' = n + 1) (ha : a + 1 ≤ a') : y_LP s' c n' a' := by
  subst hj; subst hv; subst hn
  refine ⟨by have := h.1; omega, by have := h.2.1; omega, fun i p q => ?_, fun i p q => ?_⟩
  · rw [g2 i (by omega)]
    by_cases r : i + 1 = j
    · rw [r, e]; exact h.2.2.2 i p (by omega)
    · rw [g2 _ r]; exact h.2.2.1 i p (by omega)
  · by_cases r : i = j
    · rw [r, e]; exact ha
    · rw [g2 _ r]; have := h.2.2.2 i p (by omega); omega
theorem y_LP.end {s s' : z_M} {c n a j v m : Int} (h : y_LP s c n a) (g2 : ∀ b : Int, b ≠ j → s' c b = s c b) (e : s' c j = v) (hj : j = n) (hv : v = m) (ha : a ≤ m) : y_LL s' c n m := by
  subst hj; subst hv
  refine ⟨h.1, by have := h.2.1; omega, fun i p q => ?_, fun i p q => ?_⟩
  · rw [g2 i (by omega)]
    by_cases r : i + 1 = j
    · rw [r, e]; have := h.2.2.2 i p (by omega); omega
    · rw [g2 _ r]; exact h.2.2.1 i p (by omega)
  · by_cases r : i = j
    · rw [r, e]; exact Int.le_refl _
    · rw [g2 _ r]; have := h.2.2.2 i p (by omega); omega
theorem y_LL.fr {s s' : z_M} {c n m : Int} (h : y_LL s c n m) (k : ∀ b, s' c b = s c b) : y_LL s' c n m := by
  refine ⟨h.1, h.2.1, fun i p q => ?_, fun i p q => ?_⟩
  · rw [k, k]; exact h.2.2.1 i p q
  · rw [k]; exact h.2.2.2 i p q
theorem y_LL.at {s : z_M} {c n m i j : Int} (h : y_LL s c n m) (h0 : 0 ≤ i) (h1 : i < n) (hj : j = i + 1) : s c i + 1 ≤ s c j ∧ s c j ≤ m := by
  subst hj; exact ⟨h.2.2.1 i h0 h1, h.2.2.2 _ (by omega) (by omega)⟩
/-- n lines -/
def y_L (s : z_M) (n : Int) : Prop := y_LL s 3438 n (s 309 20)
theorem y_L.fr {s s' : z_M} {n : Int} (h : y_L s n) (e : s' 309 20 = s 309 20) (k : ∀ b, s' 3438 b = s 3438 b) : y_L s' n := by
  show y_LL s' 3438 n (s' 309 20)
  rw [e]; exact y_LL.fr h k
theorem y_L.cg {s : z_M} {n n' : Int} (h : y_L s n) (e : n' = n) : y_L s n' := by subst e; exact h
theorem y_L.of {s : z_M} {n m : Int} (h : y_LL s 3438 n m) (e : s 309 20 = m) : y_L s n := by
  show y_LL s 3438 n (s 309 20)
  rw [e]; exact h
theorem y_L.le {s : z_M} {n : Int} (h : y_L s n) : 0 ≤ n ∧ n ≤ s 309 20 := ⟨h.1, h.2.1⟩
/-- n pages -/
def y_PF (s : z_M) (n : Int) : Prop := y_LL s 7653 n (s 309 44)
theorem y_PF.fr {s s' : z_M} {n : Int} (h : y_PF s n) (e : s' 309 44 = s 309 44) (k : ∀ b, s' 7653 b = s 7653 b) : y_PF s' n := by
  show y_LL s' 7653 n (s' 309 44)
  rw [e]; exact y_LL.fr h k
theorem y_PF.cg {s : z_M} {n n' : Int} (h : y_PF s n) (e : n' = n) : y_PF s n' := by subst e; exact h
theorem y_PF.of {s : z_M} {n m : Int} (h : y_LL s 7653 n m) (e : s 309 44 = m) : y_PF s n := by
  show y_LL s 7653 n (s 309 44)
  rw [e]; exact h
/-- the ends of the best lines, from unit a on -/
def y_N (s : z_M) (a : Int) : Prop := ∀ i : Int, a ≤ i → i < s 309 20 → i ≤ s 3440 i ∧ s 3440 i < s 309 20
theorem y_N.fr {s s' : z_M} {a : Int} (h : y_N s a) (e : s' 309 20 = s 309 20) (k : ∀ b, s' 3440 b = s 3440 b) : y_N s' a := fun i p q => by
  rw [e] at q
  rw [k, e]; exact h i p q
theorem y_N.cg {s : z_M} {a a' : Int} (h : y_N s a) (e : a ≤ a') : y_N s a' := fun i p q => h i (by omega) q
theorem y_N.z {s : z_M} {a : Int} (e : s 309 20 ≤ a) : y_N s a := fun i p q => by omega
theorem y_N.st {s s' : z_M} {a j : Int} (h : y_N s a) (e : s' 309 20 = s 309 20) (g2 : ∀ b : Int, b ≠ j → s' 3440 b = s 3440 b) (hj : j < a) : y_N s' a := fun i p q => by
  rw [e] at q
  rw [g2 i (by omega), e]; exact h i p q
def y_X (s : z_M) (a b : Int) : Prop := (s 3439 a = -1 ∨ (a ≤ s 3440 a ∧ s 3440 a < s 309 20)) ∧ (b < s 309 20 ∨ (a ≤ s 3440 a ∧ s 3440 a < s 309 20))
theorem y_X.fr {s s' : z_M} {a b : Int} (h : y_X s a b) (e : s' 309 20 = s 309 20) (k1 : ∀ b, s' 3439 b = s 3439 b) (k2 : ∀ b, s' 3440 b = s 3440 b) : y_X s' a b := by
  unfold y_X
  rw [e, k1, k2]; exact h
theorem y_X.cg {s : z_M} {a b a' b' : Int} (h : y_X s a b) (e : a' = a) (e2 : b' = b) : y_X s a' b' := by subst e; subst e2; exact h
theorem y_X.sk {s : z_M} {a b a' b' : Int} (h : y_X s a b) (e : a' = a) (e2 : b' < s 309 20) : y_X s a' b' := by subst e; exact ⟨h.1, Or.inl e2⟩
theorem y_X.ne {s : z_M} {a b a' b' : Int} (h : y_X s a b) (e : a' = a) (e2 : s 3439 a ≠ -1) : y_X s a' b' := by
  subst e; exact ⟨h.1, Or.inr (h.1.resolve_left e2)⟩
theorem y_X.st {s : z_M} {a b : Int} (e : a ≤ s 3440 a ∧ s 3440 a < s 309 20) : y_X s a b := ⟨Or.inr e, Or.inr e⟩
theorem y_X.mk {s : z_M} {a b : Int} (e : s 3439 a = -1) (h : b < s 309 20) : y_X s a b := ⟨Or.inl e, Or.inl h⟩
theorem y_N.dn {s : z_M} {a a' b n : Int} (h : y_N s a) (x : y_X s a' b) (ha : a = a' + 1) (hb : s 309 20 ≤ b) (hn : n = a') : y_N s n := fun i p q => by
  subst hn
  by_cases r : i = n
  · subst r; exact x.2.resolve_left (by omega)
  · exact h i (by omega) q
def y_M1 (s : z_M) (m : Int) : Prop := m = 1 → y_N s 0
theorem y_M1.fr {s s' : z_M} {m : Int} (h : y_M1 s m) (e : s' 309 20 = s 309 20) (k : ∀ b, s' 3440 b = s 3440 b) : y_M1 s' m := fun q => (h q).fr e k
theorem y_M1.cg {s : z_M} {m m' : Int} (h : y_M1 s m) (e : m' = m) : y_M1 s m' := by subst e; exact h
theorem y_M1.no {s : z_M} {m : Int} (e : m ≠ 1) : y_M1 s m := fun q => absurd q e
theorem y_M1.of {s : z_M} {m a : Int} (h : y_N s a) (ha : a ≤ 0) : y_M1 s m := fun _ => h.cg ha
theorem y_M1.at {s : z_M} {m a : Int} (h : y_M1 s m) (e : m = 1) (h0 : 0 ≤ a) (h1 : a < s 309 20) : a ≤ s 3440 a ∧ s 3440 a < s 309 20 := h e a h0 h1
/-- where the block k ends -/
def y_en (s : z_M) (k : Int) : Int := s (3452 + k) 0 + s (3452 + k) 1
/-- the blocks, up to unit e -/
def y_BP (s : z_M) (e : Int) : Prop := s 309 58 ≤ e ∧ ∀ k : Int, 0 ≤ k → k < s 309 58 → y_en s k ≤ e ∧ (k + 1 < s 309 58 → y_en s k ≤ s (3452 + (k + 1)) 0) ∧ ∀ v : Int, s (3452 + k) 0 ≤ v → v < y_en s k → s 3220 v = 7
theorem y_BP.fr {s s' : z_M} {e : Int} (h : y_BP s e) (hc : s 309 58 ≤ 200) (e1 : s' 309 58 = s 309 58) (k0 : ∀ b, s' 3220 b = s 3220 b) (kr : ∀ a b : Int, 3452 ≤ a ∧ a ≤ 3651 → s' a b = s a b) : y_BP s' e := by
  refine ⟨by rw [e1]; exact h.1, fun k p q => ?_⟩
  rw [e1] at q
  have w : y_en s' k = y_en s k := by unfold y_en; rw [kr _ _ (by omega), kr _ _ (by omega)]
  rw [w, e1]
  obtain ⟨a1, a2, a3⟩ := h.2 k p q
  refine ⟨a1, fun r => ?_, fun v r t => ?_⟩
  · rw [kr _ _ (by omega)]; exact a2 r
  · rw [kr _ _ (by omega)] at r
    rw [k0]; exact a3 v r t
theorem y_BP.cg {s : z_M} {e e' : Int} (h : y_BP s e) (he : e ≤ e') : y_BP s e' := ⟨by have := h.1; omega, fun k p q => ⟨by have := (h.2 k p q).1; omega, (h.2 k p q).2⟩⟩
theorem y_BP.z {s : z_M} {e : Int} (h : s 309 58 = 0) (he : 0 ≤ e) : y_BP s e := ⟨by omega, fun k p q => by omega⟩
def y_BK (s : z_M) : Prop := y_BP s (s 309 20)
theorem y_BK.fr {s s' : z_M} (h : y_BK s) (hc : s 309 58 ≤ 200) (e0 : s' 309 20 = s 309 20) (e1 : s' 309 58 = s 309 58) (k0 : ∀ b, s' 3220 b = s 3220 b) (kr : ∀ a b : Int, 3452 ≤ a ∧ a ≤ 3651 → s' a b = s a b) : y_BK s' := by
  show y_BP s' (s' 309 20)
  rw [e0]; exact y_BP.fr h hc e1 k0 kr
theorem y_BK.of {s : z_M} {e : Int} (h : y_BP s e) (he : e ≤ s 309 20) : y_BK s := h.cg he
theorem y_BK.k7 {s : z_M} (h : y_BK s) {k x y v : Int} (h0 : 0 ≤ k) (h1 : k < s 309 58) (e0 : s (3452 + k) 0 = x) (e1 : s (3452 + k) 1 = y) (hv : x ≤ v) (hw : v < x + y) : s 3220 v = 7 ∧ v < s 309 20 := by
  subst e0; subst e1
  have q := h.2 k h0 h1
  refine ⟨q.2.2 v hv hw, ?_⟩
  have := q.1
  unfold y_en at this; omega
theorem y_BK.en {s : z_M} (h : y_BK s) {k : Int} (h0 : 0 ≤ k) (h1 : k < s 309 58) : s (3452 + k) 0 + s (3452 + k) 1 ≤ s 309 20 := (h.2 k h0 h1).1
theorem y_BK.nx {s : z_M} (h : y_BK s) {k j : Int} (h0 : 0 ≤ k) (hj : j = k + 1) (h1 : j < s 309 58) : s (3452 + k) 0 + s (3452 + k) 1 ≤ s (3452 + j) 0 := by
  subst hj; exact (h.2 k h0 (by omega)).2.1 h1
def y_BL (s : z_M) (l : Int) : Prop := y_BP s (s 3438 l)
theorem y_BL.fr {s s' : z_M} {l : Int} (h : y_BL s l) (hc : s 309 58 ≤ 200) (e1 : s' 309 58 = s 309 58) (k0 : ∀ b, s' 3220 b = s 3220 b) (kl : ∀ b, s' 3438 b = s 3438 b) (kr : ∀ a b : Int, 3452 ≤ a ∧ a ≤ 3651 → s' a b = s a b) : y_BL s' l := by
  show y_BP s' (s' 3438 l)
  rw [kl]; exact y_BP.fr h hc e1 k0 kr
theorem y_BL.cg {s : z_M} {l l' : Int} (h : y_BL s l) (e : l' = l) : y_BL s l' := by subst e; exact h
theorem y_BL.of {s : z_M} {l e : Int} (h : y_BP s e) (he : e ≤ s 3438 l) : y_BL s l := h.cg he
theorem y_BL.to {s : z_M} {l x y : Int} (h : y_BL s l) (e : s 3438 l = x) (hy : x ≤ y) : y_BP s y := by subst e; exact y_BP.cg h hy
theorem y_BL.z {s : z_M} {l : Int} (h : s 309 58 = 0) (he : 0 ≤ s 3438 l) : y_BL s l := y_BP.z h he
def y_LE (s : z_M) (l b : Int) : Prop := s 3438 (l + 1) = b + 1
theorem y_LE.fr {s s' : z_M} {l b : Int} (h : y_LE s l b) (kl : ∀ b, s' 3438 b = s 3438 b) : y_LE s' l b := by
  unfold y_LE; rw [kl]; exact h
theorem y_LE.cg {s : z_M} {l b l' b' : Int} (h : y_LE s l b) (e : l' = l) (e2 : b' = b) : y_LE s l' b' := by subst e; subst e2; exact h
theorem y_LE.mk {s : z_M} {l b j x : Int} (e : s 3438 j = x) (hj : j = l + 1) (hx : b = x - 1) : y_LE s l b := by
  subst hj; unfold y_LE; omega
/-- blocks that begin among the units a to b -/
def y_E (s : z_M) (a b : Int) : Prop := ∀ u : Int, a ≤ u → u ≤ b → 0 < s 3229 u → u + s 3229 u ≤ b + 1 ∧ ∀ v : Int, u ≤ v → v < u + s 3229 u → s 3220 v = 7 ∧ (u < v → s 3229 v ≤ 0)
theorem y_E.fr {s s' : z_M} {a b : Int} (h : y_E s a b) (k1 : ∀ b, s' 3229 b = s 3229 b) (k2 : ∀ b, s' 3220 b = s 3220 b) : y_E s' a b := fun u p q r => by
  rw [k1] at r
  rw [k1]
  refine ⟨(h u p q r).1, fun v x y => ?_⟩
  rw [k1, k2]; exact (h u p q r).2 v x y
theorem y_E.cg {s : z_M} {a b a' b' : Int} (h : y_E s a b) (e1 : a ≤ a') (e2 : b' = b) : y_E s a' b' := by
  subst e2; exact fun u p q r => h u (by omega) q r
theorem y_E.at {s : z_M} {a b u x : Int} (h : y_E s a b) (e : s 3229 u = x) (h0 : a ≤ u ∧ u ≤ b) (hx : 0 < x) : u + x ≤ b + 1 := by
  subst e; exact (h u h0.1 h0.2 hx).1
def y_F (s : z_M) (a u b : Int) : Prop := (∀ v : Int, a ≤ v → v < u → 0 < s 3229 v → v + s 3229 v ≤ u ∧ ∀ w : Int, v ≤ w → w < v + s 3229 v → s 3220 w = 7 ∧ (v < w → s 3229 w ≤ 0)) ∧ ∀ v : Int, u ≤ v → v ≤ b → s 3229 v ≤ 0
theorem y_F.fr {s s' : z_M} {a u b : Int} (h : y_F s a u b) (k1 : ∀ b, s' 3229 b = s 3229 b) (k2 : ∀ b, s' 3220 b = s 3220 b) : y_F s' a u b := by
  refine ⟨fun v p q r => ?_, fun v p q => by rw [k1]; exact h.2 v p q⟩
  rw [k1] at r
  rw [k1]
  refine ⟨(h.1 v p q r).1, fun w x y => ?_⟩
  rw [k1, k2]; exact (h.1 v p q r).2 w x y
theorem y_F.cg {s : z_M} {a u b a' u' b' : Int} (h : y_F s a u b) (e1 : a' = a) (e2 : u' = u) (e3 : b' = b) : y_F s a' u' b' := by
  subst e1; subst e2; subst e3; exact h
theorem y_F.sk {s : z_M} {a u b a' u' b' : Int} (h : y_F s a u b) (e1 : a' = a) (e2 : u' = u + 1) (e3 : b' = b) (hb : u ≤ b) : y_F s a' u' b' := by
  subst e1; subst e2; subst e3
  have z := h.2 u (Int.le_refl u) hb
  refine ⟨fun v p q r => ?_, fun v p q => h.2 v (by omega) q⟩
  have hv : v < u := by
    by_cases e : v = u
    · subst e; omega
    · omega
  obtain ⟨q1, q2⟩ := h.1 v p hv r
  exact ⟨by omega, q2⟩
theorem y_F.E {s : z_M} {a u b a' b' : Int} (h : y_F s a u b) (e1 : a' = a) (e2 : u = b + 1) (e3 : b' = b) : y_E s a' b' := by
  subst e1; subst e2; subst e3
  exact fun v p q r => h.1 v p (by omega) r
def y_G (s : z_M) (u n : Int) : Prop := ∀ w : Int, u ≤ w → w < u + n → s 3220 w = 7
theorem y_G.fr {s s' : z_M} {u n : Int} (h : y_G s u n) (k2 : ∀ b, s' 3220 b = s 3220 b) : y_G s' u n := fun w p q => by rw [k2]; exact h w p q
theorem y_G.cg {s : z_M} {u n u' n' : Int} (h : y_G s u n) (e1 : u' = u) (e2 : n' = n) : y_G s u' n' := by subst e1; subst e2; exact h
theorem y_G.z {s : z_M} {u n : Int} (e2 : n = 0) : y_G s u n := fun w p q => by omega
theorem y_G.ex {s : z_M} {u n u' n' w : Int} (h : y_G s u n) (e : s 3220 w = 7) (e0 : w = u + n) (e1 : u' = u) (e2 : n' = n + 1) : y_G s u' n' := fun v p q => by
  by_cases r : v = w
  · rw [r]; exact e
  · exact h v (by omega) (by omega)
theorem y_F.blk {s s' : z_M} {a u b n j v : Int} (h : y_F s a u b) (hg : y_G s u n) (g : ∀ a b : Int, a ≠ 3229 → s' a b = s a b) (g2 : ∀ b : Int, b ≠ j → s' 3229 b = s 3229 b) (e : s' 3229 j = v) (hj : j = u) (hv : v = n) (hn : 1 ≤ n) (hb : u + n ≤ b + 1) : y_F s' a (u + n) b := by
  subst hj; subst hv
  refine ⟨fun w p q r => ?_, fun w p q => by rw [g2 w (by omega)]; exact h.2 w (by omega) q⟩
  by_cases t : w = j
  · subst t
    rw [e] at r ⊢
    refine ⟨Int.le_refl _, fun x y z => ?_⟩
    rw [g 3220 x (by decide)]
    refine ⟨hg x y z, fun l => ?_⟩
    rw [g2 x (by omega)]; exact h.2 x (by omega) (by omega)
  · rw [g2 w t] at r ⊢
    by_cases l : w < j
    · obtain ⟨q1, q2⟩ := h.1 w p l r
      refine ⟨by omega, fun x y z => ?_⟩
      rw [g 3220 x (by decide), g2 x (by omega)]; exact q2 x y z
    · have := h.2 w (by omega) (by omega)
      omega
def y_Zr (s : z_M) (a b : Int) : Prop := ∀ v : Int, a ≤ v → v < b → s 3229 v ≤ 0
theorem y_Zr.fr {s s' : z_M} {a b : Int} (h : y_Zr s a b) (k1 : ∀ b, s' 3229 b = s 3229 b) : y_Zr s' a b := fun v p q => by rw [k1]; exact h v p q
theorem y_Zr.cg {s : z_M} {a b a' b' : Int} (h : y_Zr s a b) (e1 : a' = a) (e2 : b' ≤ b) : y_Zr s a' b' := by subst e1; exact fun v p q => h v p (by omega)
theorem y_Zr.z {s : z_M} {a b : Int} (e : b ≤ a) : y_Zr s a b := fun v p q => by omega
theorem y_Zr.st {s s' : z_M} {a b j v : Int} (h : y_Zr s a b) (g2 : ∀ b : Int, b ≠ j → s' 3229 b = s 3229 b) (e : s' 3229 j = v) (hj : j = b) (hv : v = 0) : y_Zr s' a (b + 1) := fun w p q => by
  by_cases r : w = j
  · rw [r, e]; omega
  · rw [g2 w r]; exact h w p (by omega)
theorem y_F.of {s : z_M} {a c a' u b : Int} (h : y_Zr s a c) (e1 : a' = a) (e2 : u = a) (e3 : b < c) : y_F s a' u b := by
  subst e1; subst e2
  exact ⟨fun v p q r => by omega, fun v p q => h v p (by omega)⟩
/-- the blocks so far, at unit u of a line that ends with unit b -/
def y_BX (s : z_M) (u b : Int) : Prop := s 309 58 ≤ u ∧ (∀ k : Int, 0 ≤ k → k < s 309 58 → y_en s k ≤ b + 1 ∧ (k + 1 < s 309 58 → y_en s k ≤ s (3452 + (k + 1)) 0) ∧ ∀ v : Int, s (3452 + k) 0 ≤ v → v < y_en s k → s 3220 v = 7) ∧ ∀ v : Int, u ≤ v → v ≤ b → 0 < s 3229 v → ∀ k : Int, 0 ≤ k → k < s 309 58 → y_en s k ≤ v
theorem y_BX.fr {s s' : z_M} {u b : Int} (h : y_BX s u b) (hc : s 309 58 ≤ 200) (e1 : s' 309 58 = s 309 58) (k0 : ∀ b, s' 3220 b = s 3220 b) (k1 : ∀ b, s' 3229 b = s 3229 b) (kr : ∀ a b : Int, 3452 ≤ a ∧ a ≤ 3651 → s' a b = s a b) : y_BX s' u b := by
  have w : ∀ k : Int, 0 ≤ k → k < s 309 58 → y_en s' k = y_en s k := fun k p q => by unfold y_en; rw [kr _ _ (by omega), kr _ _ (by omega)]
  refine ⟨by rw [e1]; exact h.1, fun k p q => ?_, fun v p q r k x y => ?_⟩
  · rw [e1] at q
    rw [w k p q, e1]
    obtain ⟨a1, a2, a3⟩ := h.2.1 k p q
    refine ⟨a1, fun r => ?_, fun v r t => ?_⟩
    · rw [kr _ _ (by omega)]; exact a2 r
    · rw [kr _ _ (by omega)] at r
      rw [k0]; exact a3 v r t
  · rw [k1] at r
    rw [e1] at y
    rw [w k x y]; exact h.2.2 v p q r k x y
theorem y_BX.cg {s : z_M} {u b u' b' : Int} (h : y_BX s u b) (e1 : u ≤ u') (e2 : b' = b) : y_BX s u' b' := by
  subst e2
  exact ⟨by have := h.1; omega, h.2.1, fun v p q r => h.2.2 v (by omega) q r⟩
theorem y_BX.of {s : z_M} {a u b : Int} (h : y_BP s a) (e1 : a ≤ u) (e2 : u ≤ b + 1) : y_BX s u b := by
  refine ⟨by have := h.1; omega, fun k p q => ⟨by have := (h.2 k p q).1; omega, (h.2 k p q).2⟩, fun v p q r k x y => ?_⟩
  have := (h.2 k x y).1
  omega
theorem y_BX.P {s : z_M} {u b e : Int} (h : y_BX s u b) (e1 : b + 1 = e) (e2 : u ≤ e) : y_BP s e := by
  subst e1
  exact ⟨by have := h.1; omega, h.2.1⟩
/-- a row of a block that is not yet counted -/
theorem y_BX.row {s s' : z_M} {u b c : Int} (h : y_BX s u b) (hc : c = 3452 + s 309 58) (h5 : s 309 58 ≤ 200) (g : ∀ a b : Int, a ≠ c → s' a b = s a b) (hr : 0 ≤ s 309 58) : y_BX s' u b := by
  have e1 : s' 309 58 = s 309 58 := g _ _ (by omega)
  have w : ∀ k : Int, 0 ≤ k → k < s 309 58 → y_en s' k = y_en s k := fun k p q => by unfold y_en; rw [g _ _ (by omega), g _ _ (by omega)]
  refine ⟨by rw [e1]; exact h.1, fun k p q => ?_, fun v p q r k x y => ?_⟩
  · rw [e1] at q
    rw [w k p q, e1]
    obtain ⟨a1, a2, a3⟩ := h.2.1 k p q
    refine ⟨a1, fun r => ?_, fun v r t => ?_⟩
    · rw [g _ _ (by omega)]; exact a2 r
    · rw [g _ _ (by omega)] at r
      rw [g _ _ (by omega)]; exact a3 v r t
  · rw [g _ _ (by omega)] at r
    rw [e1] at y
    rw [w k x y]; exact h.2.2 v p q r k x y
theorem y_BX.new {s s' : z_M} {u b n x c : Int} (h : y_BX s u b) (he : y_E s u b) (hn : s 309 58 = n) (h0 : 0 ≤ n) (hr : n ≤ 200) (hu : u ≤ b) (hx : s 3229 u = x) (hp : 0 < x) (q0 : s (3452 + n) 0 = u) (q1 : s (3452 + n) 1 = x) (g : ∀ a b : Int, a ≠ 309 → s' a b = s a b) (e : s' 309 58 = c) (ec : c = n + 1) : y_BX s' (u + 1) b := by
  subst ec
  obtain ⟨f1, f2⟩ := he u (Int.le_refl u) hu (by omega)
  have w : ∀ k : Int, 0 ≤ k → k ≤ n → y_en s' k = y_en s k := fun k p q => by unfold y_en; rw [g _ _ (by omega), g _ _ (by omega)]
  have wn : y_en s n = u + x := by unfold y_en; rw [q0, q1]
  refine ⟨by have := h.1; omega, fun k p q => ?_, fun v p q r k y z => ?_⟩
  · rw [e] at q
    rw [w k p (by omega), e]
    by_cases t : k = n
    · subst t
      refine ⟨by rw [wn]; omega, fun r => by omega, fun v r z => ?_⟩
      rw [g _ _ (by omega), q0] at r
      rw [wn] at z
      rw [g _ _ (by omega)]
      exact (f2 v r (by omega)).1
    · obtain ⟨a1, a2, a3⟩ := h.2.1 k p (by omega)
      refine ⟨a1, fun r => ?_, fun v r z => ?_⟩
      · rw [g _ _ (by omega)]
        by_cases l : k + 1 = n
        · rw [l, q0]
          exact h.2.2 u (Int.le_refl u) hu (by omega) k p (by omega)
        · exact a2 (by omega)
      · rw [g _ _ (by omega)] at r
        rw [g _ _ (by omega)]; exact a3 v r z
  · rw [g _ _ (by omega)] at r
    rw [e] at z
    rw [w k y (by omega)]
    by_cases t : k = n
    · subst t
      rw [wn]
      by_cases l : v < u + x
      · have := (f2 v (by omega) (by omega)).2 (by omega)
        omega
      · omega
    · exact h.2.2 v (by omega) q r k y (by omega)
/-- what is kept of the lines and blocks stands -/
def y_K (s : z_M) : Prop := s 309 36 ≠ 0 → s 309 43 ≠ 0 → y_L s (s 309 44) ∧ y_BK s
theorem y_K.fr {s s' : z_M} (h : y_K s) (hc : s 309 58 ≤ 200) (kk : s' 309 43 = 0 ∨ s' 309 36 = 0 ∨ (s 309 36 ≠ 0 ∧ s 309 43 ≠ 0)) (e44 : s' 309 44 = s 309 44) (e20 : s' 309 20 = s 309 20) (e58 : s' 309 58 = s 309 58) (kl : ∀ b, s' 3438 b = s 3438 b) (k0 : ∀ b, s' 3220 b = s 3220 b) (kr : ∀ a b : Int, 3452 ≤ a ∧ a ≤ 3651 → s' a b = s a b) : y_K s' := fun p q => by
  obtain ⟨a, b⟩ := kk.resolve_left q |>.resolve_left p
  obtain ⟨c, d⟩ := h a b
  rw [e44]
  exact ⟨c.fr e20 kl, d.fr hc e20 e58 k0 kr⟩
theorem y_K.b0 {s : z_M} (e : s 309 43 = 0) : y_K s := fun _ q => absurd e q
theorem y_K.k0 {s : z_M} (e : s 309 36 = 0) : y_K s := fun p _ => absurd e p
theorem y_K.mk {s : z_M} {n : Int} (h : y_L s n) (e : n = s 309 44) (b : y_BK s) : y_K s := fun _ _ => ⟨e ▸ h, b⟩
theorem y_K.L {s : z_M} (h : y_K s) (e1 : s 309 36 ≠ 0) (e2 : s 309 43 ≠ 0) : y_L s (s 309 44) := (h e1 e2).1
theorem y_K.B {s : z_M} (h : y_K s) (e1 : s 309 36 ≠ 0) (e2 : s 309 43 ≠ 0) : y_BK s := (h e1 e2).2
/-- the letters of a base's reading, of some units, of a block -/
def y_lt (s : z_M) (u d : Int) : Int := s (407 + s 361 (s 3221 u)) (10 * d)
def y_sm (s : z_M) (d : Int) : Int → Nat → Int
  | _, 0 => 0
  | u, m + 1 => y_lt s u d + y_sm s d (u + 1) m
def y_ls (s : z_M) (k d : Int) : Int := y_sm s d (s (3452 + k) 0) (s (3452 + k) 1).toNat
theorem y_sm_st {s : z_M} {d u e : Int} (h : u < e) : y_sm s d u (e - u).toNat = y_lt s u d + y_sm s d (u + 1) (e - (u + 1)).toNat := by
  have : (e - u).toNat = (e - (u + 1)).toNat + 1 := by omega
  rw [this]; rfl
theorem y_sm_z {s : z_M} {d u e : Int} (h : e ≤ u) : y_sm s d u (e - u).toNat = 0 := by
  have : (e - u).toNat = 0 := by omega
  rw [this]; rfl
theorem y_lt_mk {s : z_M} {u d x y j z : Int} (e3 : s 3221 u = x) (e4 : s 361 x = y) (e5 : s (407 + y) j = z) (hj : j = 10 * d) : z = y_lt s u d := by
  unfold y_lt; rw [e3, e4, ← hj, e5]
/-- lettersIn's loop: n letters are counted before unit u -/
def y_SM (s : z_M) (k d u n : Int) : Prop := s (3452 + k) 0 ≤ u ∧ u ≤ y_en s k ∧ n + y_sm s d u (y_en s k - u).toNat = y_ls s k d ∧ 0 ≤ n ∧ n ≤ 9 * (u - s (3452 + k) 0)
theorem y_SM.cg {s : z_M} {k d u n u' n' : Int} (h : y_SM s k d u n) (e1 : u' = u) (e2 : n' = n) : y_SM s k d u' n' := by subst e1; subst e2; exact h
theorem y_SM.z {s : z_M} {k d u n : Int} (e : s (3452 + k) 0 = u) (hn : n = 0) (hc : 0 ≤ s (3452 + k) 1) : y_SM s k d u n := by
  subst e; subst hn
  refine ⟨by omega, by unfold y_en; omega, ?_, by omega, by omega⟩
  unfold y_ls y_en
  rw [show s (3452 + k) 0 + s (3452 + k) 1 - s (3452 + k) 0 = s (3452 + k) 1 by omega]
  exact Int.zero_add _
theorem y_SM.st {s : z_M} {k d u n x y v u' n' : Int} (h : y_SM s k d u n) (e0 : s (3452 + k) 0 = x) (e1 : s (3452 + k) 1 = y) (hu : u < x + y) (hv : v = y_lt s u d) (hr : 0 ≤ v ∧ v ≤ 9) (eu : u' = u + 1) (en : n' = n + v) : y_SM s k d u' n' := by
  subst eu; subst en; subst e0; subst e1
  obtain ⟨a, b, c, d1, d2⟩ := h
  have q : u < y_en s k := hu
  refine ⟨by omega, by omega, ?_, by omega, by omega⟩
  rw [y_sm_st q] at c
  omega
theorem y_SM.end {s : z_M} {k d u n x y : Int} (h : y_SM s k d u n) (e0 : s (3452 + k) 0 = x) (e1 : s (3452 + k) 1 = y) (hu : x + y ≤ u) : n = y_ls s k d ∧ n ≤ 9 * s (3452 + k) 1 := by
  subst e0; subst e1
  obtain ⟨a, b, c, d1, d2⟩ := h
  have q : y_en s k ≤ u := hu
  rw [y_sm_z q] at c
  unfold y_en at b
  exact ⟨by omega, by omega⟩
theorem y_SM.lo {s : z_M} {k d u n : Int} (h : y_SM s k d u n) : s (3452 + k) 0 ≤ u ∧ 0 ≤ n ∧ n ≤ 9 * (u - s (3452 + k) 0) ∧ u ≤ s (3452 + k) 0 + s (3452 + k) 1 := ⟨h.1, h.2.2.2.1, h.2.2.2.2, h.2.1⟩
/-- letterAt's loop: letter i from unit u on -/
def y_LA (s : z_M) (k d u i : Int) : Prop := s (3452 + k) 0 ≤ u ∧ u ≤ y_en s k ∧ 0 ≤ i ∧ i < y_sm s d u (y_en s k - u).toNat
theorem y_LA.cg {s : z_M} {k d u i u' i' : Int} (h : y_LA s k d u i) (e1 : u' = u) (e2 : i' = i) : y_LA s k d u' i' := by subst e1; subst e2; exact h
theorem y_LA.z {s : z_M} {k d u i : Int} (e : s (3452 + k) 0 = u) (hc : 0 ≤ s (3452 + k) 1) (hi : 0 ≤ i) (hl : i < y_ls s k d) : y_LA s k d u i := by
  subst e
  refine ⟨by omega, by unfold y_en; omega, hi, ?_⟩
  unfold y_ls at hl
  unfold y_en
  rw [show s (3452 + k) 0 + s (3452 + k) 1 - s (3452 + k) 0 = s (3452 + k) 1 by omega]
  exact hl
theorem y_LA.lt {s : z_M} {k d u i : Int} (h : y_LA s k d u i) : s (3452 + k) 0 ≤ u ∧ u < s (3452 + k) 0 + s (3452 + k) 1 := by
  obtain ⟨a, b, c, d1⟩ := h
  refine ⟨a, ?_⟩
  by_cases q : u < y_en s k
  · exact q
  · rw [y_sm_z (by omega)] at d1
    omega
theorem y_LA.st {s : z_M} {k d u i v u' i' : Int} (h : y_LA s k d u i) (hv : v = y_lt s u d) (hi : v ≤ i) (eu : u' = u + 1) (en : i' = i - v) : y_LA s k d u' i' := by
  subst eu; subst en
  have q := h.lt
  obtain ⟨a, b, c, d1⟩ := h
  have q2 : u < y_en s k := q.2
  rw [y_sm_st q2] at d1
  exact ⟨by omega, by omega, by omega, by omega⟩
theorem y_BK.s7 {s : z_M} (h : y_BK s) {k u : Int} (h0 : 0 ≤ k) (h1 : k < s 309 58) (hv : s (3452 + k) 0 ≤ u ∧ u < s (3452 + k) 0 + s (3452 + k) 1) : s 3220 u = 7 ∧ u < s 309 20 := h.k7 h0 h1 rfl rfl hv.1 hv.2
/-- how many things of readings may lie before block k -/
def y_TH (s : z_M) (k m : Int) : Prop := (k ≤ 0 ∧ m ≤ 0) ∨ (1 ≤ k ∧ m ≤ 9 * y_en s (k - 1))
theorem y_TH.fr {s s' : z_M} {k m : Int} (h : y_TH s k m) (hk : k ≤ 200) (kr : ∀ a b : Int, 3452 ≤ a ∧ a ≤ 3651 → s' a b = s a b) : y_TH s' k m := by
  rcases h with h | h
  · exact Or.inl h
  · refine Or.inr ⟨h.1, ?_⟩
    have w : y_en s' (k - 1) = y_en s (k - 1) := by unfold y_en; rw [kr _ _ (by omega), kr _ _ (by omega)]
    rw [w]; exact h.2
theorem y_TH.cg {s : z_M} {k m k' m' : Int} (h : y_TH s k m) (e : k' = k) (e2 : m' ≤ m) : y_TH s k' m' := by
  subst e
  rcases h with h | h
  · exact Or.inl ⟨h.1, by omega⟩
  · exact Or.inr ⟨h.1, by omega⟩
theorem y_TH.z {s : z_M} {k m : Int} (hk : k ≤ 0) (hm : m ≤ 0) : y_TH s k m := Or.inl ⟨hk, hm⟩
theorem y_TH.le {s : z_M} {k m : Int} (h : y_TH s k m) (b : y_BK s) (h1 : k < s 309 58) (hs : 0 ≤ s (3452 + k) 0) : m ≤ 9 * s (3452 + k) 0 := by
  rcases h with h | h
  · omega
  · have := b.nx (k := k - 1) (j := k) (by omega) (by omega) h1
    have := h.2
    unfold y_en at this; omega
theorem y_TH.nx {s : z_M} {k m k' m' : Int} (h : y_TH s k m) (b : y_BK s) (h0 : 0 ≤ k) (h1 : k < s 309 58) (hs : 0 ≤ s (3452 + k) 0) (e : k' = k + 1) (e2 : m' ≤ m + 9 * s (3452 + k) 1) : y_TH s k' m' := by
  subst e
  have := h.le b h1 hs
  refine Or.inr ⟨by omega, ?_⟩
  rw [show k + 1 - 1 = k by omega]
  unfold y_en; omega
theorem y_TH.end {s : z_M} {k m : Int} (h : y_TH s k m) (b : y_BK s) (h0 : k ≤ s 309 58) (hu : s 309 20 ≤ 200) : m ≤ 1800 := by
  rcases h with h | h
  · omega
  · have := b.en (k := k - 1) (by omega) (by omega)
    have := h.2
    unfold y_en at this; omega
/-- n is not more than the letters of block k -/
def y_LI (s : z_M) (k d n : Int) : Prop := n ≤ 0 ∨ n ≤ y_ls s k d
theorem y_sm_fr {s s' : z_M} {d : Int} (k1 : ∀ b, s' 3221 b = s 3221 b) (k2 : ∀ b, s' 361 b = s 361 b) (kr : ∀ a b : Int, 406 ≤ a ∧ a ≤ 606 → s' a b = s a b) (hb : ∀ b, -1 ≤ s 361 b ∧ s 361 b ≤ 199) : ∀ (m : Nat) (u : Int), y_sm s' d u m = y_sm s d u m := by
  intro m
  induction m with
  | zero => intro u; rfl
  | succ m ih =>
    intro u
    show y_lt s' u d + y_sm s' d (u + 1) m = y_lt s u d + y_sm s d (u + 1) m
    rw [ih]
    unfold y_lt
    rw [k1, k2, kr _ _ (by have := hb (s 3221 u); omega)]
theorem y_LI.fr {s s' : z_M} {k d n : Int} (h : y_LI s k d n) (c : z_CI s) (hk : 0 ≤ k ∧ k ≤ 199) (k1 : ∀ b, s' 3221 b = s 3221 b) (k2 : ∀ b, s' 361 b = s 361 b) (kr : ∀ a b : Int, 406 ≤ a ∧ a ≤ 606 → s' a b = s a b) (kb : ∀ a b : Int, 3452 ≤ a ∧ a ≤ 3651 → s' a b = s a b) : y_LI s' k d n := by
  unfold y_LI y_ls
  rw [kb _ _ (by omega), kb _ _ (by omega), y_sm_fr k1 k2 kr (fun b => CI_b c (k := 361) (j := b) (by unfold z_bd; repeat (first | rw [if_neg (by omega)] | rw [if_pos (by omega)])))]
  exact h
theorem y_LI.cg {s : z_M} {k d n k' d' n' : Int} (h : y_LI s k d n) (e1 : k' = k) (e2 : d' = d) (e3 : n' ≤ n) : y_LI s k' d' n' := by
  subst e1; subst e2; unfold y_LI at *; omega
theorem y_LI.mk {s : z_M} {k d n x : Int} (e : x = y_ls s k d) (h : n ≤ x) : y_LI s k d n := by unfold y_LI; omega
theorem y_LI.z {s : z_M} {k d n : Int} (h : n ≤ 0) : y_LI s k d n := Or.inl h
theorem y_LI.to {s : z_M} {k d n : Int} (h : y_LI s k d n) : n ≤ 0 ∨ n ≤ y_ls s k d := h
/-- how many things of marks may lie before unit u -/
def y_TS (s : z_M) (u m : Int) : Prop := (u < s 309 20 → m ≤ s 3221 u) ∧ m ≤ s 316 0
theorem y_TS.fr {s s' : z_M} {u m : Int} (h : y_TS s u m) (e : s' 309 20 = s 309 20) (e2 : s' 316 0 = s 316 0) (k1 : ∀ b, s' 3221 b = s 3221 b) : y_TS s' u m := by
  unfold y_TS; rw [e, e2, k1]; exact h
theorem y_TS.cg {s : z_M} {u m u' m' : Int} (h : y_TS s u m) (e : u' = u) (e2 : m' ≤ m) : y_TS s u' m' := by
  subst e; exact ⟨fun q => by have := h.1 q; omega, by have := h.2; omega⟩
theorem y_TS.z {s : z_M} {u m : Int} (hm : m ≤ 0) (h : 0 ≤ s 3221 u) (h0 : 0 ≤ s 316 0) : y_TS s u m := ⟨fun _ => by omega, by omega⟩
theorem y_TS.nx {s : z_M} {u m v : Int} (b : y_B s) (h0 : 0 ≤ u) (hu : u < s 309 20) (hm : m ≤ s 3221 u + s 3222 u) (e : v = u + 1) : y_TS s v m := by
  subst e
  refine ⟨fun q => ?_, ?_⟩
  · have := b.nx h0 rfl q
    omega
  · have := b.at h0 hu
    omega
def y_FI (s : z_M) (u i : Int) : Prop := i ≤ s 3221 u + s 3222 u
theorem y_FI.fr {s s' : z_M} {u i : Int} (h : y_FI s u i) (k1 : ∀ b, s' 3221 b = s 3221 b) (k2 : ∀ b, s' 3222 b = s 3222 b) : y_FI s' u i := by
  unfold y_FI; rw [k1, k2]; exact h
theorem y_FI.cg {s : z_M} {u i u' i' : Int} (h : y_FI s u i) (e : u' = u) (e2 : i' ≤ i) : y_FI s u' i' := by
  subst e; unfold y_FI at *; omega
theorem y_FI.mk {s : z_M} {u i x y : Int} (e1 : s 3221 u = x) (e2 : s 3222 u = y) (h : i ≤ x + y) : y_FI s u i := by
  unfold y_FI; omega
theorem y_FI.to {s : z_M} {u i : Int} (h : y_FI s u i) : i ≤ s 3221 u + s 3222 u := h
/-- symbolic rows -/
theorem z_gr405 (t : Int) : z_gr 405 t = 406 + 201 * t := by
  unfold z_gr
  repeat (first | rw [if_neg (by omega)] | rw [if_pos (by omega)])
theorem z_grL {t k : Int} (h : 0 ≤ t ∧ t ≤ 13) : z_gr (406 + 201 * t) k = 407 + 201 * t + k := by
  unfold z_gr
  rw [if_neg (by omega), if_neg (by omega)]
  by_cases q : t = 0
  · subst q
    rw [if_neg (by omega), if_pos (by omega), if_pos (by omega)]; omega
  · rw [if_neg (by omega), if_pos (by omega), if_pos (by omega)]; omega
theorem z_shL1 {t : Int} (h : 0 ≤ t ∧ t ≤ 13) : z_sh (406 + 201 * t) = (103, 200) := by
  unfold z_sh
  repeat (first | rw [if_neg (by omega)] | rw [if_pos (by omega)])
theorem z_shL2 {t k : Int} (h : 0 ≤ t ∧ t ≤ 13) (hk : 0 ≤ k ∧ k ≤ 199) : z_sh (407 + 201 * t + k) = (100, 20) := by
  unfold z_sh
  repeat (first | rw [if_neg (by omega)] | rw [if_pos (by omega)])
/-- the bounds of a letters' row, by place -/
theorem z_bdL {c j : Int} (h : (407 ≤ c ∧ c ≤ 3219) ∧ (c - 406) % 201 ≠ 0) : z_bd c j = if j = 0 ∨ j = 10 then (0, 9) else (-2147483648, 2147483647) := by
  by_cases q : j = 0 ∨ j = 10
  · rw [if_pos q]
    unfold z_bd
    repeat (first | rw [if_neg (by omega)] | rw [if_pos (by omega)])
  · rw [if_neg q]
    have w : (z_sh c).1 = 100 := by
      unfold z_sh
      repeat (first | rw [if_neg (by omega)] | rw [if_pos (by omega)])
    unfold z_bd
    repeat (first | rw [if_neg (by omega)] | rw [if_pos (by omega)] | rw [w])
    rfl
theorem z_bdLe {c c2 j : Int} (h : (407 ≤ c ∧ c ≤ 3219) ∧ (c - 406) % 201 ≠ 0) (h2 : (407 ≤ c2 ∧ c2 ≤ 3219) ∧ (c2 - 406) % 201 ≠ 0) : z_bd c j = ((z_bd c2 j).1, (z_bd c2 j).2) := by
  rw [z_bdL h, z_bdL h2]
theorem z_bdH {t t2 j : Int} (h : 0 ≤ t ∧ t ≤ 13) (h2 : 0 ≤ t2 ∧ t2 ≤ 13) (hj : 0 ≤ j ∧ j ≤ 2) : z_bd (316 + t) j = ((z_bd (316 + t2) j).1, (z_bd (316 + t2) j).2) := by
  by_cases q : j = 0 ∨ j = 1
  · rw [z_bd_head h q, z_bd_head h2 q]
  · have w : ∀ {t : Int}, 0 ≤ t ∧ t ≤ 13 → z_bd (316 + t) j = (-2147483648, 2147483647) := fun {t} h => by
      have w : (z_sh (316 + t)).1 = 100 := by
        unfold z_sh
        repeat (first | rw [if_neg (by omega)] | rw [if_pos (by omega)])
      unfold z_bd
      repeat (first | rw [if_neg (by omega)] | rw [if_pos (by omega)] | rw [w])
      rfl
    rw [w h, w h2]
theorem bd0x {c j : Int} (h : (407 ≤ c ∧ c ≤ 3219) ∧ (c - 406) % 201 ≠ 0) (hj : j = 0 ∨ j = 10) : z_bd c j = (0, 9) := by
  rw [z_bdL h, if_pos hj]
theorem bd0y {c j : Int} (h : (407 ≤ c ∧ c ≤ 3219) ∧ (c - 406) % 201 ≠ 0) (hj : ¬ (j = 0 ∨ j = 10)) : z_bd c j = (-2147483648, 2147483647) := by
  rw [z_bdL h, if_neg hj]
theorem y_gp_no {s : z_M} {u : Int} (h : s 3220 u ≠ 7) : -1 = y_gp s u := (if_neg h).symm
theorem y_gp_mk {s : z_M} {u x y z : Int} (h : s 3220 u = 7) (e3 : s 3221 u = x) (e4 : s 361 x = y) (e5 : s 391 y = z) : z = y_gp s u := by
  unfold y_gp; rw [if_pos h, e3, e4, e5]
theorem y_gpn {s : z_M} {u n w x1 x2 : Int} (h1 : x1 = y_gp s w) (h2 : x2 = y_gp s u) (e : w = u + n) : n ≠ 0 ∨ x1 = x2 := by
  by_cases q : n = 0
  · have : w = u := by omega
    subst this
    exact Or.inr (h1.trans h2.symm)
  · exact Or.inl q
/-- what is to be read -/
def y_hr (s : z_M) : Int := if s 309 4 < s 309 3 then s 311 (s 309 4) else -1
theorem y_hr_no {s : z_M} (h : s 309 3 ≤ s 309 4) : -1 = y_hr s := (if_neg (by omega)).symm
theorem y_hr_mk {s : z_M} {x y : Int} (h : s 309 4 < s 309 3) (e1 : s 309 4 = x) (e2 : s 311 x = y) : y = y_hr s := by
  unfold y_hr; rw [if_pos h, e1, e2]
theorem y_hr_lt (s : z_M) : y_hr s = -1 ∨ s 309 4 < s 309 3 := by
  by_cases h : s 309 4 < s 309 3
  · exact Or.inr h
  · exact Or.inl (if_neg h)
theorem y_Q.n0 {s : z_M} {n i : Int} (h : y_Q s n i) : n ≠ 0 ∨ i = 0 := by
  by_cases q : n = 0
  · exact Or.inr (h.1 q)
  · exact Or.inl q
theorem y_DD.z {s : z_M} (h0 : s 329 0 = 0) (h1 : s 329 1 = 0) : y_DD s := ⟨by omega, y_D.z (by omega)⟩
theorem z_pt {s s' : z_M} {k j v : Int} (g2 : ∀ b : Int, b ≠ j → s' k b = s k b) (e : s' k j = v) (m : Int) : (j = m ∧ s' k m = v) ∨ (j ≠ m ∧ s' k m = s k m) := by
  by_cases q : j = m
  · exact Or.inl ⟨q, by rw [← q]; exact e⟩
  · exact Or.inr ⟨q, g2 m (Ne.symm q)⟩
theorem y_CP.B {r s : z_M} {f t n m : Int} (h : y_CP r s f t n m) (ht : t ≠ 0) (b : y_B r) (e : s 309 20 = r 309 20) (k0 : ∀ b, s 3220 b = r 3220 b) (k1 : ∀ b, s 3221 b = r 3221 b) (k2 : ∀ b, s 3222 b = r 3222 b) : y_B s := by
  have q := h.2.2 0 (by omega) (by omega) (Ne.symm ht)
  simp only [Int.add_zero] at q
  exact y_B.fr b e (q 0).1 k0 k1 k2 (fun b => (q b).2.2)
theorem y_L.at {s : z_M} {n i j : Int} (h : y_L s n) (h0 : 0 ≤ i) (h1 : i < n) (hj : j = i + 1) : s 3438 i + 1 ≤ s 3438 j ∧ s 3438 j ≤ s 309 20 := y_LL.at h h0 h1 hj
theorem y_PF.at {s : z_M} {n i j : Int} (h : y_PF s n) (h0 : 0 ≤ i) (h1 : i < n) (hj : j = i + 1) : s 7653 i + 1 ≤ s 7653 j ∧ s 7653 j ≤ s 309 44 := y_LL.at h h0 h1 hj
theorem y_BK.bl {s : z_M} {l n : Int} (h : y_BL s l) (hL : y_L s n) (e : l = n) : y_BK s := by
  subst e
  exact y_BP.cg h (hL.2.2.2 l hL.1 (Int.le_refl _))
theorem y_BL.x {s : z_M} {u b l l' : Int} (h : y_BX s u b) (le : y_LE s l b) (hu : u ≤ b + 1) (hl : l' = l + 1) : y_BL s l' := by
  subst hl
  have e : s 3438 (l + 1) = b + 1 := le
  show y_BP s (s 3438 (l + 1))
  rw [e]; exact y_BX.P h rfl hu
theorem y_K.bk {s : z_M} (e : s 309 43 = 0 ∨ s 309 36 = 0) : y_K s := by
  rcases e with e | e
  · exact y_K.b0 e
  · exact y_K.k0 e
theorem y_SM.or {s : z_M} {k d u n x y : Int} (h : y_SM s k d u n) (e0 : s (3452 + k) 0 = x) (e1 : s (3452 + k) 1 = y) : u < x + y ∨ (n = y_ls s k d ∧ n ≤ 9 * s (3452 + k) 1) := by
  by_cases q : u < x + y
  · exact Or.inl q
  · exact Or.inr (h.end e0 e1 (by omega))
theorem y_FI.z {s : z_M} {u i : Int} (e1 : s 3221 u = i) (h : 0 ≤ s 3222 u) : y_FI s u i := by
  unfold y_FI; omega
/-- a sign of cut: no base, or one that has a new place -/
def y_CB (s : z_M) (i b : Int) : Prop := (b = -1 ∧ s 346 i ≠ 7) ∨ (0 ≤ b ∧ 0 ≤ s 7657 b)
theorem y_CB.fr {s s' : z_M} {i b : Int} (h : y_CB s i b) (k1 : ∀ b, s' 346 b = s 346 b) (k2 : ∀ b, s' 7657 b = s 7657 b) : y_CB s' i b := by
  unfold y_CB; rw [k1, k2]; exact h
theorem y_CB.cg {s : z_M} {i b i' b' : Int} (h : y_CB s i b) (e : i' = i) (e2 : b' = b) : y_CB s i' b' := by subst e; subst e2; exact h
theorem y_CB.a {s : z_M} {i b : Int} (h : b = -1) (h2 : s 346 i ≠ 7) : y_CB s i b := Or.inl ⟨h, h2⟩
theorem y_CB.b {s : z_M} {i b v : Int} (h : 0 ≤ b) (e : s 7657 b = v) (hv : 0 ≤ v) : y_CB s i b := Or.inr ⟨h, by omega⟩
theorem y_CB.to {s : z_M} {i b : Int} (h : y_CB s i b) : (b = -1 ∧ s 346 i ≠ 7) ∨ (0 ≤ b ∧ 0 ≤ s 7657 b) := h
/-- a reading that has room for a letter -/
def y_RC (s : z_M) (c d : Int) : Prop := s 309 6 ≠ 0 ∨ s c (10 * d) ≤ 8
theorem y_RC.cg {s : z_M} {c d c' d' : Int} (h : y_RC s c d) (e : c' = c) (e2 : d' = d) : y_RC s c' d' := by subst e; subst e2; exact h
theorem y_RC.mk {s : z_M} {c d x v : Int} (e : s c x = v) (hx : x = 10 * d) (hv : v ≤ 8) : y_RC s c d := by
  subst hx; exact Or.inr (by omega)
theorem y_RC.to {s : z_M} {c d x v : Int} (h : y_RC s c d) (f : s 309 6 = 0) (e : s c x = v) (hx : x = 10 * d) : v ≤ 8 := by
  subst hx
  have := h.resolve_left (fun q => q f)
  omega
/-- what addsBlock leaves as it was -/
def y_RK (r s : z_M) (n : Int) : Prop := ∀ a b : Int, a ≠ 3452 + n → a ≠ 3448 → ¬ (a = 309 ∧ b = 58) → s a b = r a b
theorem y_RK.z {r : z_M} {n : Int} : y_RK r r n := fun _ _ _ _ _ => rfl
theorem y_RK.st {r s s' : z_M} {n : Int} (h : y_RK r s n) (g : ∀ a b : Int, a ≠ 3452 + n → s' a b = s a b) : y_RK r s' n := fun a b p q w => (g a b p).trans (h a b p q w)
theorem y_RK.st2 {r s s' : z_M} {n : Int} (h : y_RK r s n) (g : ∀ a b : Int, a ≠ 309 → s' a b = s a b) (g2 : ∀ b : Int, b ≠ 58 → s' 309 b = s 309 b) : y_RK r s' n := fun a b p q w => by
  refine Eq.trans ?_ (h a b p q w)
  by_cases e : a = 309
  · subst e
    exact g2 b (fun z => w ⟨rfl, z⟩)
  · exact g a b e
theorem y_RK.st3 {r s s' : z_M} {n : Int} (h : y_RK r s n) (g : ∀ a b : Int, a ≠ 3448 → s' a b = s a b) : y_RK r s' n := fun a b p q w => (g a b q).trans (h a b p q w)
def y_AB (r s : z_M) (u : Int) : Prop := ∀ b : Int, u ≤ b → y_E r u b → y_BX r u b → y_BX s (u + 1) b
theorem y_AB.mk {r s : z_M} {u n x : Int} (h : y_RK r s n) (hn : r 309 58 = n) (h0 : 0 ≤ n) (hr : n ≤ 199) (hx : r 3229 u = x) (hp : 0 < x) (q0 : s (3452 + n) 0 = u) (q1 : s (3452 + n) 1 = x) (e : s 309 58 = n + 1) : y_AB r s u := fun b hu he hb => by
  obtain ⟨f1, f2⟩ := he u (Int.le_refl u) hu (by omega)
  have k0 : ∀ v, s 3220 v = r 3220 v := fun v => h _ _ (by omega) (by omega) (by omega)
  have k1 : ∀ v, s 3229 v = r 3229 v := fun v => h _ _ (by omega) (by omega) (by omega)
  have kr : ∀ k : Int, 0 ≤ k → k < n → ∀ v, s (3452 + k) v = r (3452 + k) v := fun k p q v => h _ _ (by omega) (by omega) (by omega)
  have w : ∀ k : Int, 0 ≤ k → k < n → y_en s k = y_en r k := fun k p q => by unfold y_en; rw [kr k p q, kr k p q]
  have wn : y_en s n = u + x := by unfold y_en; rw [q0, q1]
  refine ⟨by have := hb.1; omega, fun k p q => ?_, fun v p q r2 k y z => ?_⟩
  · rw [e] at q
    rw [e]
    by_cases t : k = n
    · subst t
      refine ⟨by rw [wn]; omega, fun r2 => by omega, fun v r2 z => ?_⟩
      rw [q0] at r2
      rw [wn] at z
      rw [k0]
      exact (f2 v r2 (by omega)).1
    · obtain ⟨a1, a2, a3⟩ := hb.2.1 k p (by omega)
      rw [w k p (by omega)]
      refine ⟨a1, fun r2 => ?_, fun v r2 z => ?_⟩
      · by_cases l : k + 1 = n
        · rw [l, q0]
          exact hb.2.2 u (Int.le_refl u) hu (by omega) k p (by omega)
        · rw [kr (k + 1) (by omega) (by omega)]
          exact a2 (by omega)
      · rw [kr k p (by omega)] at r2
        rw [k0]; exact a3 v r2 z
  · rw [k1] at r2
    rw [e] at z
    by_cases t : k = n
    · subst t
      rw [wn]
      by_cases l : v < u + x
      · have := (f2 v (by omega) (by omega)).2 (by omega)
        omega
      · omega
    · rw [w k y (by omega)]
      exact hb.2.2 v (by omega) q r2 k y (by omega)
theorem bd329 {j : Int} (h : j = 2) : z_bd 329 j = (-2147483648, 2147483647) := by subst h; decide +kernel
theorem z_cmp3 (x y : Int) : (z_cmp x y = 0 ∧ x = y) ∨ (z_cmp x y < 0 ∧ x < y) ∨ (0 < z_cmp x y ∧ y < x) := by
  unfold z_cmp
  split
  · omega
  · split <;> omega
/-- the settings, as they were; one turned over; all but the one that is lent; one set -/
def y_SE (r s : z_M) : Prop := ∀ j : Int, s 312 j = r 312 j
theorem y_SE.z {r : z_M} : y_SE r r := fun _ => rfl
theorem y_SE.fr {r s s' : z_M} (h : y_SE r s) (k : ∀ b, s' 312 b = s 312 b) : y_SE r s' := fun j => (k j).trans (h j)
theorem y_SE.at {r s : z_M} (h : y_SE r s) (j : Int) : s 312 j = r 312 j := h j
def y_S5 (r s : z_M) : Prop := s 312 5 = z_w (1 - r 312 5) ∧ ∀ j : Int, j ≠ 5 → s 312 j = r 312 j
theorem y_S5.fr {r s s' : z_M} (h : y_S5 r s) (k : ∀ b, s' 312 b = s 312 b) : y_S5 r s' := ⟨(k 5).trans h.1, fun j q => (k j).trans (h.2 j q)⟩
theorem y_S5.mk {r s s' : z_M} {x v : Int} (h : y_SE r s) (e0 : s 312 5 = x) (w : z_w (1 - x) = v) (e : s' 312 5 = v) (g2 : ∀ b : Int, b ≠ 5 → s' 312 b = s 312 b) : y_S5 r s' := by
  refine ⟨?_, fun j q => (g2 j q).trans (h j)⟩
  rw [e, ← w, ← e0, h 5]
theorem y_S5.of {r s s' : z_M} (h : y_S5 s s') (g : y_SE r s) : y_S5 r s' := ⟨by rw [h.1, g 5], fun j q => (h.2 j q).trans (g j)⟩
theorem y_SE.two {r s s' : z_M} (g : y_S5 r s) (h : y_S5 s s') (b : -2147483648 ≤ r 312 5 ∧ r 312 5 ≤ 2147483647) : y_SE r s' := fun j => by
  by_cases q : j = 5
  · subst q
    rw [h.1, g.1]
    unfold z_w; omega
  · exact (h.2 j q).trans (g.2 j q)
def y_S2 (r s : z_M) : Prop := ∀ j : Int, j ≠ 2 → s 312 j = r 312 j
theorem y_S2.fr {r s s' : z_M} (h : y_S2 r s) (k : ∀ b, s' 312 b = s 312 b) : y_S2 r s' := fun j q => (k j).trans (h j q)
theorem y_S2.of {r s : z_M} (h : y_SE r s) : y_S2 r s := fun j _ => h j
theorem y_S2.st {r s s' : z_M} (h : y_S2 r s) (g2 : ∀ b : Int, b ≠ 2 → s' 312 b = s 312 b) : y_S2 r s' := fun j q => (g2 j q).trans (h j q)
theorem y_SE.re {r s s' : z_M} {v : Int} (h : y_S2 r s) (g2 : ∀ b : Int, b ≠ 2 → s' 312 b = s 312 b) (e : s' 312 2 = v) (hv : v = r 312 2) : y_SE r s' := fun j => by
  by_cases q : j = 2
  · subst q; exact e.trans hv
  · exact (g2 j q).trans (h j q)
def y_RG (r : z_M) (i v : Int) : Prop := 0 ≤ i ∧ i ≤ 8 ∧ r 313 i ≤ v ∧ v ≤ r 314 i
theorem y_NG.i {r : z_M} {i v : Int} (h : i < 0 ∨ 8 < i) : ¬ y_RG r i v := fun q => by
  have := q.1; have := q.2.1; omega
def y_HO (r : z_M) (i v lo hi : Int) : Prop := (lo ≤ v ∧ v ≤ hi) ↔ y_RG r i v
theorem y_HO.mk {r s : z_M} {i j v lo hi : Int} (k1 : ∀ b, s 313 b = r 313 b) (k2 : ∀ b, s 314 b = r 314 b) (e1 : s 313 j = lo) (e2 : s 314 j = hi) (hj : i = j) (h : 0 ≤ i ∧ i ≤ 8) : y_HO r i v lo hi := by
  subst hj
  unfold y_HO y_RG
  rw [← k1, ← k2, e1, e2]
  exact ⟨fun q => ⟨h.1, h.2, q.1, q.2⟩, fun q => ⟨q.2.2.1, q.2.2.2⟩⟩
theorem y_NG.h {r : z_M} {i v lo hi : Int} (h : y_HO r i v lo hi) (q : v < lo ∨ hi < v) : ¬ y_RG r i v := fun g => by
  have := h.mpr g; omega
def y_RT (r : z_M) (i v t : Int) : Prop := (t = 1 ∧ ¬ y_RG r i v) ∨ (t = 0 ∧ y_RG r i v)
theorem y_RT.n {r : z_M} {i v t : Int} (h : ¬ y_RG r i v) (e : t = 1) : y_RT r i v t := Or.inl ⟨e, h⟩
theorem y_RT.y {r : z_M} {i v t lo hi : Int} (h : y_HO r i v lo hi) (p : lo ≤ v ∧ v ≤ hi) (e : t = 0) : y_RT r i v t := Or.inr ⟨e, h.mp p⟩
def y_S1 (r s : z_M) (i v x : Int) : Prop := x = r 312 i ∧ s 312 i = v ∧ ∀ j : Int, j ≠ i → s 312 j = r 312 j
theorem y_S1.fr {r s s' : z_M} {i v x : Int} (h : y_S1 r s i v x) (k : ∀ b, s' 312 b = s 312 b) : y_S1 r s' i v x := ⟨h.1, (k i).trans h.2.1, fun j q => (k j).trans (h.2.2 j q)⟩
theorem y_S1.mk {r s s' : z_M} {i v x : Int} (h : y_SE r s) (g2 : ∀ b : Int, b ≠ i → s' 312 b = s 312 b) (e : s' 312 i = v) (e0 : s 312 i = x) : y_S1 r s' i v x := ⟨by rw [← e0, h i], e, fun j q => (g2 j q).trans (h j)⟩
def y_MS (r s : z_M) (i v x : Int) : Prop := (y_RG r i v ∧ s 309 0 = 0 ∧ y_S1 r s i v x) ∨ (¬ y_RG r i v ∧ s 309 0 = 1 ∧ y_SE r s)
theorem y_MS.y {r s : z_M} {i v t x : Int} (h : y_RT r i v t) (h1 : y_S1 r s i v x) (e : t = 0) (e2 : s 309 0 = 0) : y_MS r s i v x := by
  rcases h with ⟨p, _⟩ | ⟨_, q⟩
  · omega
  · exact Or.inl ⟨q, e2, h1⟩
theorem y_MS.n {r s : z_M} {i v t x : Int} (h : y_RT r i v t) (h1 : y_SE r s) (e : t = 1) (e2 : s 309 0 = 1) : y_MS r s i v x := by
  rcases h with ⟨_, q⟩ | ⟨p, _⟩
  · exact Or.inr ⟨q, e2, h1⟩
  · omega
