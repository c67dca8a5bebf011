/-! COPIES of texts in the reference, all that counts of a text -/
def y_CF (r s : z_M) (f t n m : Int) : Prop := (∀ b : Int, 0 ≤ b → b < n → s (316 + t) b = r (316 + f) b) ∧ (∀ b : Int, 0 ≤ b → b < m → s (331 + t) b = r (331 + f) b ∧ s (346 + t) b = r (346 + f) b ∧ s (361 + t) b = r (361 + f) b ∧ s (376 + t) b = r (376 + f) b) ∧
  ∀ u : Int, 0 ≤ u → u ≤ 13 → u ≠ t → ∀ b, s (316 + u) b = r (316 + u) b ∧ s (331 + u) b = r (331 + u) b ∧ s (346 + u) b = r (346 + u) b ∧ s (361 + u) b = r (361 + u) b ∧ s (376 + u) b = r (376 + u) b
theorem y_CF.z {r : z_M} {f t n m : Int} (hn : n ≤ 0) (hm : m ≤ 0) : y_CF r r f t n m := ⟨fun b _ _ => by omega, fun b _ _ => by omega, fun u _ _ _ b => ⟨rfl, rfl, rfl, rfl, rfl⟩⟩
theorem y_CF.cg {r s : z_M} {f t n m n' m' : Int} (h : y_CF r s f t n m) (e1 : n' ≤ n) (e2 : m' ≤ m) : y_CF r s f t n' m' := ⟨fun b a c => h.1 b a (by omega), fun b a c => h.2.1 b a (by omega), h.2.2⟩
theorem y_CF.fr {r s s' : z_M} {f t n m : Int} (ht : 0 ≤ t ∧ t ≤ 13) (h : y_CF r s f t n m) (k1 : ∀ a b : Int, 316 ≤ a ∧ a ≤ 329 → s' a b = s a b) (k0 : ∀ a b : Int, 331 ≤ a ∧ a ≤ 344 → s' a b = s a b) (k2 : ∀ a b : Int, 346 ≤ a ∧ a ≤ 359 → s' a b = s a b) (k3 : ∀ a b : Int, 361 ≤ a ∧ a ≤ 374 → s' a b = s a b) (k4 : ∀ a b : Int, 376 ≤ a ∧ a ≤ 389 → s' a b = s a b) : y_CF r s' f t n m := by
  refine ⟨fun b a c => ?_, fun b a c => ?_, fun u a c d b => ?_⟩
  · rw [k1 _ _ (by omega)]; exact h.1 b a c
  · rw [k0 _ _ (by omega), k2 _ _ (by omega), k3 _ _ (by omega), k4 _ _ (by omega)]; exact h.2.1 b a c
  · rw [k1 _ _ (by omega), k0 _ _ (by omega), k2 _ _ (by omega), k3 _ _ (by omega), k4 _ _ (by omega)]; exact h.2.2 u a c d b
theorem y_CF.st {r s s' : z_M} {f t n m : Int} (ht : 0 ≤ t ∧ t ≤ 13) (h : y_CF r s f t n m) (k1 : ∀ b : Int, b < n → s' (316 + t) b = s (316 + t) b) (k0 : ∀ b : Int, b < m → s' (331 + t) b = s (331 + t) b) (k2 : ∀ b : Int, b < m → s' (346 + t) b = s (346 + t) b) (k3 : ∀ b : Int, b < m → s' (361 + t) b = s (361 + t) b) (k4 : ∀ b : Int, b < m → s' (376 + t) b = s (376 + t) b)
    (g : ∀ a b : Int, a ≠ 316 + t → a ≠ 331 + t → a ≠ 346 + t → a ≠ 361 + t → a ≠ 376 + t → s' a b = s a b) : y_CF r s' f t n m := by
  refine ⟨fun b a c => ?_, fun b a c => ?_, fun u a c d b => ?_⟩
  · rw [k1 _ c]; exact h.1 b a c
  · rw [k0 _ c, k2 _ c, k3 _ c, k4 _ c]; exact h.2.1 b a c
  · rw [g _ _ (by omega) (by omega) (by omega) (by omega) (by omega), g _ _ (by omega) (by omega) (by omega) (by omega) (by omega), g _ _ (by omega) (by omega) (by omega) (by omega) (by omega), g _ _ (by omega) (by omega) (by omega) (by omega) (by omega), g _ _ (by omega) (by omega) (by omega) (by omega) (by omega)]
    exact h.2.2 u a c d b
theorem y_CF.src {r s : z_M} {f t n m : Int} (h : y_CF r s f t n m) (hf : 0 ≤ f ∧ f ≤ 13) (hne : f ≠ t) (b : Int) : s (316 + f) b = r (316 + f) b ∧ s (331 + f) b = r (331 + f) b ∧ s (346 + f) b = r (346 + f) b ∧ s (361 + f) b = r (361 + f) b ∧ s (376 + f) b = r (376 + f) b := h.2.2 f hf.1 hf.2 hne b
theorem y_CF.exn {r s : z_M} {f t n m n' : Int} (h : y_CF r s f t n m) (e : s (316 + t) n = r (316 + f) n) (hn : n' = n + 1) : y_CF r s f t n' m := by
  refine ⟨fun b a c => ?_, h.2.1, h.2.2⟩
  by_cases q : b = n
  · rw [q]; exact e
  · exact h.1 b a (by omega)
theorem y_CF.exm {r s : z_M} {f t n m m' : Int} (h : y_CF r s f t n m) (e0 : s (331 + t) m = r (331 + f) m) (e1 : s (346 + t) m = r (346 + f) m) (e2 : s (361 + t) m = r (361 + f) m) (e3 : s (376 + t) m = r (376 + f) m) (hm : m' = m + 1) : y_CF r s f t n m' := by
  refine ⟨h.1, fun b a c => ?_, h.2.2⟩
  by_cases q : b = m
  · rw [q]; exact ⟨e0, e1, e2, e3⟩
  · exact h.2.1 b a (by omega)
/-- what a text is told of by its rows -/
theorem y_TX.r {g r s : z_M} {k f t bb : Int} (h : y_TX g k r f bb) (hn : r (316 + f) 0 ≤ 200) (e0 : s (316 + t) 0 = r (316 + f) 0) (e2 : s (316 + t) 2 = r (316 + f) 2) (e : ∀ b : Int, 0 ≤ b → b < 200 → s (331 + t) b = r (331 + f) b ∧ s (346 + t) b = r (346 + f) b ∧ s (361 + t) b = r (361 + f) b ∧ s (376 + t) b = r (376 + f) b) : y_TX g k s t bb := by
  obtain ⟨a1, a2, a3, a4⟩ := h
  refine ⟨by rw [e0]; exact a1, by rw [e2]; exact a2, a3, fun i p q => ?_⟩
  rw [e0] at q
  obtain ⟨b1, b2, b3, b4⟩ := a4 i p q
  obtain ⟨x1, x2, x3, x4⟩ := e i p (by omega)
  refine ⟨by rw [x3]; exact b1, by rw [x1]; exact b2, by rw [x4]; exact b3, ?_⟩
  have hb : y_bs s t i ↔ y_bs r f i := by
    unfold y_bs
    by_cases z : i = 0
    · exact ⟨fun _ => Or.inl z, fun _ => Or.inl z⟩
    · obtain ⟨w1, w2, w3, w4⟩ := e (i - 1) (by omega) (by omega)
      rw [w2, w3, x3]
  have hc : y_bb s t i ↔ y_bb r f i := by
    unfold y_bb
    rw [x3]
    exact ⟨fun h j u v => by rw [← (e j u (by omega)).2.2.1]; exact h j u v, fun h j u v => by rw [(e j u (by omega)).2.2.1]; exact h j u v⟩
  rw [x2, hb, hc, x3]
  exact b4
theorem y_TX.cp {g r s : z_M} {k f t bb : Int} (h : y_TX g k r f bb) (c : y_CF r s f t 3 200) (hn : r (316 + f) 0 ≤ 200) : y_TX g k s t bb :=
  h.r hn (c.1 0 (by omega) (by omega)) (c.1 2 (by omega) (by omega)) c.2.1
theorem y_TX.ck {g r s : z_M} {k f t u bb : Int} (h : y_TX g k r u bb) (c : y_CF r s f t 3 200) (hu : 0 ≤ u ∧ u ≤ 13) (hne : u ≠ t) (hn : r (316 + u) 0 ≤ 200) : y_TX g k s u bb :=
  h.r hn (c.2.2 u hu.1 hu.2 hne 0).1 (c.2.2 u hu.1 hu.2 hne 2).1 (fun b _ _ => (c.2.2 u hu.1 hu.2 hne b).2)
/-! groups and letters of a copy -/
def y_CL (r s : z_M) (f t m : Int) : Prop := (∀ b : Int, 0 ≤ b → b < m → b < 200 → s (391 + t) b = r (391 + f) b ∧ (b < r (316 + f) 1 → ∀ j : Int, 0 ≤ j → j < 20 → s (407 + 201 * t + b) j = r (407 + 201 * f + b) j)) ∧
  ∀ u : Int, 0 ≤ u → u ≤ 13 → u ≠ t → (∀ b, s (391 + u) b = r (391 + u) b) ∧ ∀ b j : Int, 0 ≤ b → b < 200 → s (407 + 201 * u + b) j = r (407 + 201 * u + b) j
theorem y_CL.z {r : z_M} {f t m : Int} (hm : m ≤ 0) : y_CL r r f t m := ⟨fun b _ _ => by omega, fun u _ _ _ => ⟨fun _ => rfl, fun _ _ _ _ => rfl⟩⟩
theorem y_CL.cg {r s : z_M} {f t m m' : Int} (h : y_CL r s f t m) (e : m' ≤ m) : y_CL r s f t m' := ⟨fun b a c => h.1 b a (by omega), h.2⟩
theorem y_CL.fr {r s s' : z_M} {f t m : Int} (ht : 0 ≤ t ∧ t ≤ 13) (h : y_CL r s f t m) (k5 : ∀ a b : Int, 391 ≤ a ∧ a ≤ 404 → s' a b = s a b) (k6 : ∀ a b : Int, 407 ≤ a ∧ a ≤ 3219 → s' a b = s a b) : y_CL r s' f t m := by
  refine ⟨fun b a c d => ⟨?_, fun w j x y => ?_⟩, fun u a c d => ⟨fun b => ?_, fun b j x y => ?_⟩⟩
  · rw [k5 _ _ (by omega)]; exact (h.1 b a c d).1
  · rw [k6 _ _ (by omega)]; exact (h.1 b a c d).2 w j x y
  · rw [k5 _ _ (by omega)]; exact (h.2 u a c d).1 b
  · rw [k6 _ _ (by omega)]; exact (h.2 u a c d).2 b j x y
/-- in the base k: i letters' numbers are copied -/
def y_CLj (r s : z_M) (f t k i : Int) : Prop := y_CL r s f t k ∧ s (391 + t) k = r (391 + f) k ∧ ∀ j : Int, 0 ≤ j → j < i → s (407 + 201 * t + k) j = r (407 + 201 * f + k) j
theorem y_CLj.cg {r s : z_M} {f t k i k' i' : Int} (h : y_CLj r s f t k i) (e : k' = k) (e2 : i' = i) : y_CLj r s f t k' i' := by subst e; subst e2; exact h
theorem y_CLj.z {r s s' : z_M} {f t k v i : Int} (h : y_CL r s f t k) (ht : 0 ≤ t ∧ t ≤ 13) (hf : 0 ≤ f ∧ f ≤ 13) (hne : f ≠ t) (hk : 0 ≤ k ∧ k < 200) (g : ∀ a b : Int, a ≠ 391 + t → s' a b = s a b) (g2 : ∀ b : Int, b ≠ k → s' (391 + t) b = s (391 + t) b) (e : s' (391 + t) k = v) (e2 : s (391 + f) k = v) (hi : i = 0) : y_CLj r s' f t k i := by
  subst hi
  refine ⟨⟨fun b a c d => ⟨?_, fun w j x y => ?_⟩, fun u a c d => ⟨fun b => ?_, fun b j x y => ?_⟩⟩, ?_, fun j x y => by omega⟩
  · rw [g2 _ (by omega)]; exact (h.1 b a c d).1
  · rw [g _ _ (by omega)]; exact (h.1 b a c d).2 w j x y
  · rw [g _ _ (by omega)]; exact (h.2 u a c d).1 b
  · rw [g _ _ (by omega)]; exact (h.2 u a c d).2 b j x y
  · rw [e, ← e2]; exact (h.2 f hf.1 hf.2 hne).1 k
theorem y_CLj.st {r s s' : z_M} {f t k i v i' : Int} (h : y_CLj r s f t k i) (ht : 0 ≤ t ∧ t ≤ 13) (hf : 0 ≤ f ∧ f ≤ 13) (hne : f ≠ t) (hk : 0 ≤ k ∧ k < 200) (g : ∀ a b : Int, a ≠ 407 + 201 * t + k → s' a b = s a b) (g2 : ∀ b : Int, b ≠ i → s' (407 + 201 * t + k) b = s (407 + 201 * t + k) b) (e : s' (407 + 201 * t + k) i = v) (e2 : s (407 + 201 * f + k) i = v) (hi : i' = i + 1) : y_CLj r s' f t k i' := by
  subst hi
  obtain ⟨h, h1, h2⟩ := h
  refine ⟨⟨fun b a c d => ⟨?_, fun w j x y => ?_⟩, fun u a c d => ⟨fun b => ?_, fun b j x y => ?_⟩⟩, ?_, fun j x y => ?_⟩
  · rw [g _ _ (by omega)]; exact (h.1 b a c d).1
  · rw [g _ _ (by omega)]; exact (h.1 b a c d).2 w j x y
  · rw [g _ _ (by omega)]; exact (h.2 u a c d).1 b
  · rw [g _ _ (by omega)]; exact (h.2 u a c d).2 b j x y
  · rw [g _ _ (by omega)]; exact h1
  · by_cases q : j = i
    · rw [q, e, ← e2]; exact (h.2 f hf.1 hf.2 hne).2 k i hk.1 hk.2
    · rw [g2 _ q]; exact h2 j x (by omega)
theorem y_CLj.end {r s : z_M} {f t k i k' : Int} (h : y_CLj r s f t k i) (hi : 20 ≤ i ∨ r (316 + f) 1 ≤ k) (e : k' = k + 1) : y_CL r s f t k' := by
  subst e
  refine ⟨fun b a c d => ?_, h.1.2⟩
  by_cases q : b = k
  · subst q
    refine ⟨h.2.1, fun w j x y => h.2.2 j x (by omega)⟩
  · exact h.1.1 b a (by omega) d
theorem y_CLj.d20 {r s : z_M} {f t k i k' : Int} (h : y_CLj r s f t k i) (hi : 20 ≤ i) (e : k' = k + 1) : y_CL r s f t k' := h.end (Or.inl hi) e
theorem y_CLj.dh {r s : z_M} {f t k i k' x : Int} (h : y_CLj r s f t k i) (c : y_CF r s f t 3 (k + 1)) (hf : 0 ≤ f ∧ f ≤ 13) (hne : f ≠ t) (ex : s (316 + f) 1 = x) (hx : x ≤ k) (e : k' = k + 1) : y_CL r s f t k' := h.end (Or.inr (by have := (c.src hf hne 1).1; omega)) e
/-- groups and letters of text t of s are those of text f of r -/
def y_RGL (r s : z_M) (t f : Int) : Prop := (∀ b : Int, 0 ≤ b → b < 200 → s (391 + t) b = r (391 + f) b) ∧ ∀ b : Int, 0 ≤ b → b < 200 → b < r (316 + f) 1 → s (407 + 201 * t + b) 0 = r (407 + 201 * f + b) 0 ∧ s (407 + 201 * t + b) 10 = r (407 + 201 * f + b) 10
theorem y_RGL.rf {r : z_M} {t : Int} : y_RGL r r t t := ⟨fun _ _ _ => rfl, fun _ _ _ _ => ⟨rfl, rfl⟩⟩
theorem y_RGL.tr {r s s' : z_M} {t f u : Int} (h : y_RGL r s t f) (k : y_RGL s s' u t) (e : s (316 + t) 1 = r (316 + f) 1) : y_RGL r s' u f :=
  ⟨fun b p q => (k.1 b p q).trans (h.1 b p q), fun b p q w => by
    have x := h.2 b p q w
    have y := k.2 b p q (by omega)
    exact ⟨y.1.trans x.1, y.2.trans x.2⟩⟩
theorem y_CL.cp {r s : z_M} {f t : Int} (c : y_CL r s f t 200) : y_RGL r s t f := ⟨fun b p q => (c.1 b p q q).1, fun b p q w => ⟨(c.1 b p q q).2 w 0 (by decide) (by decide), (c.1 b p q q).2 w 10 (by decide) (by decide)⟩⟩
theorem y_CL.ck {r s : z_M} {f t u : Int} (c : y_CL r s f t 200) (hu : 0 ≤ u ∧ u ≤ 13) (hne : u ≠ t) : y_RGL r s u u :=
  ⟨fun b _ _ => (c.2 u hu.1 hu.2 hne).1 b, fun b p q _ => ⟨(c.2 u hu.1 hu.2 hne).2 b 0 p q, (c.2 u hu.1 hu.2 hne).2 b 10 p q⟩⟩
theorem y_RGL.fr {s s' : z_M} {t : Int} (ht : 0 ≤ t ∧ t ≤ 13) (k5 : ∀ a b : Int, 391 ≤ a ∧ a ≤ 404 → s' a b = s a b) (k6 : ∀ a b : Int, 407 ≤ a ∧ a ≤ 3219 → s' a b = s a b) : y_RGL s s' t t :=
  ⟨fun _ _ _ => k5 _ _ (by omega), fun _ _ _ _ => ⟨k6 _ _ (by omega), k6 _ _ (by omega)⟩⟩
theorem y_RGL.fr12 {s s' : z_M} {t : Int} (ht : 0 ≤ t ∧ t ≤ 12) (k5 : ∀ a b : Int, 391 ≤ a ∧ a ≤ 403 → s' a b = s a b) (k6 : ∀ a b : Int, 407 ≤ a ∧ a ≤ 3018 → s' a b = s a b) : y_RGL s s' t t :=
  ⟨fun _ _ _ => k5 _ _ (by omega), fun _ _ _ _ => ⟨k6 _ _ (by omega), k6 _ _ (by omega)⟩⟩
/-- the number of groups of text t -/
def y_gt (s : z_M) (t : Int) : Int := if s (316 + t) 1 = 0 then 0 else s (391 + t) (s (316 + t) 1 - 1) + 1
/-- groups and letters of the class's text k in g against the reference's text t in s -/
def y_XT (g : z_M) (k : Int) (s : z_M) (t : Int) : Prop := y_XF (s (316 + t) 0) (s (346 + t)) (s (361 + t)) (s (391 + t)) (fun b => s (407 + 201 * t + b)) (g (k + 6)) (g (k + 8)) (g (k + 10)) (g (k + 12)) (s (316 + t) 1) ∧ g k 7 = y_gt s t ∧ y_CT (g (k + 6)) (s (316 + t) 0) ∧ y_CLB (g (k + 6)) (s (316 + t) 0) (y_gt s t) ∧ y_PN (g k 8) (g (k + 4)) (s (316 + t) 0)
theorem y_XT.o {g s : z_M} (h : y_XT g 19 s 13) : y_XO g s (s 329 1) (y_gd s) := h
theorem y_XO.t {g s : z_M} (h : y_XO g s (s 329 1) (y_gd s)) : y_XT g 19 s 13 := h
