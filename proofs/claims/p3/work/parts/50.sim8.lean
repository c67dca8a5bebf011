/-! COPIES of texts in the reference, all that counts of a text -/
def y_CF (r s : z_M) (f t n m : Int) : Prop := (∀ b : Int, 0 ≤ b → b < n → s (316 + t) b = r (316 + f) b) ∧ (∀ b : Int, 0 ≤ b → b < m → s (331 + t) b = r (331 + f) b ∧ s (346 + t) b = r (346 + f) b ∧ s (361 + t) b = r (361 + f) b ∧ s (376 + t) b = r (376 + f) b) ∧
  ∀ u : Int, 0 ≤ u → u ≤ 13 → u ≠ t → ∀ b, s (316 + u) b = r (316 + u) b ∧ s (331 + u) b = r (331 + u) b ∧ s (346 + u) b = r (346 + u) b ∧ s (361 + u) b = r (361 + u) b ∧ s (376 + u) b = r (376 + u) b
theorem y_CF.z {r : z_M} {f t n m : Int} (hn : n ≤ 0) (hm : m ≤ 0) : y_CF r r f t n m := ⟨fun b _ _ => by omega, fun b _ _ => by omega, fun u _ _ _ b => ⟨rfl, rfl, rfl, rfl, rfl⟩⟩
theorem y_CF.cg {r s : z_M} {f t n m n' m' : Int} (h : y_CF r s f t n m) (e1 : n' ≤ n) (e2 : m' ≤ m) : y_CF r s f t n' m' := ⟨fun b a c => h.1 b a (by omega), fun b a c => h.2.1 b a (by omega), h.2.2⟩
theorem y_CF.fr {r s s' : z_M} {f t n m : Int} (ht : 0 ≤ t ∧ t ≤ 13) (h : y_CF r s f t n m) (k1 : ∀ a b : Int, 316 ≤ a ∧ a ≤ 329 → s' a b = s a b) (k0 : ∀ a b : Int, 331 ≤ a ∧ a ≤ 344 → s' a b = s a b) (k2 : ∀ a b : Int, 346 ≤ a ∧ a ≤ 359 → s' a b = s a b) (k3 : ∀ a b : Int, 361 ≤ a ∧ a ≤ 374 → s' a b = s a b) (k4 : ∀ a b : Int, 376 ≤ a ∧ a ≤ 389 → s' a b = s a b) : y_CF r s' f t n m := by
  refine ⟨fun b a c => ?_, fun b a c => ?_, fun u a c d b => ?_⟩
  · rw [k1 _ _ (by omega)]; exact h.1 b a c
  · rw [k0 _ _ (by omega), k2 _ _ (by omega), k3 _ _ (by omega), k4 _ _ (by omega)]; exact h.2.1 b a c
  · rw [k1 _ _ (by omega), k0 _ _ (by omega), k2 _ _ (by omega), k3 _ _ (by omega), k4 _ _ (by omega)]; exact h.2.2 u a c d b
theorem y_CF.st {r s s' : z_M} {f t n m : Int} (ht : 0 ≤ t ∧ t ≤ 13) (h : y_CF r s f t n m) (k1 : ∀ b : Int, b < n → s' (316 + t) b = s (316 + t) b) (k0 : ∀ b : Int, b < m → s' (331 + t) b = s (331 + t) b) (k2 : ∀ b : Int, b < m → s' (346 + t) b = s (346 + t) b) (k3 : ∀ b : Int, b < m → s' (361 + t) b = s (361 + t) b) (k4 : ∀ b : Int, b < m → s' (376 + t) b = s (376 + t) b)
    (g : ∀ a b : Int, a ≠ 316 + t → a ≠ 331 + t → a ≠ 346 + t → a ≠ 361 + t → a ≠ 376 + t → s' a b = s a b) : y_CF r s' f t n m := by
  refine ⟨fun b a c => ?_, fun b a c => ?_, fun u a c d b => ?_⟩
  · rw [k1 _ c]; exact h.1 b a c
  · rw [k0 _ c, k2 _ c, k3 _ c, k4 _ c]; exact h.2.1 b a c
  · rw [g _ _ (by omega) (by omega) (by omega) (by omega) (by omega), g _ _ (by omega) (by omega) (by omega) (by omega) (by omega), g _ _ (by omega) (by omega) (by omega) (by omega) (by omega), g _ _ (by omega) (by omega) (by omega) (by omega) (by omega), g _ _ (by omega) (by omega) (by omega) (by omega) (by omega)]
    exact h.2.2 u a c d b
theorem y_CF.src {r s : z_M} {f t n m : Int} (h : y_CF r s f t n m) (hf : 0 ≤ f ∧ f ≤ 13) (hne : f ≠ t) (b : Int) : s (316 + f) b = r (316 + f) b ∧ s (331 + f) b = r (331 + f) b ∧ s (346 + f) b = r (346 + f) b ∧ s (361 + f) b = r (361 + f) b ∧ s (376 + f) b = r (376 + f) b := h.2.2 f hf.1 hf.2 hne b
theorem y_CF.exn {r s : z_M} {f t n m n' : Int} (h : y_CF r s f t n m) (e : s (316 + t) n = r (316 + f) n) (hn : n' = n + 1) : y_CF r s f t n' m := by
  refine ⟨fun b a c => ?_, h.2.1, h.2.2⟩
  by_cases q : b = n
  · rw [q]; exact e
  · exact h.1 b a (by omega)
theorem y_CF.exm {r s : z_M} {f t n m m' : Int} (h : y_CF r s f t n m) (e0 : s (331 + t) m = r (331 + f) m) (e1 : s (346 + t) m = r (346 + f) m) (e2 : s (361 + t) m = r (361 + f) m) (e3 : s (376 + t) m = r (376 + f) m) (hm : m' = m + 1) : y_CF r s f t n m' := by
  refine ⟨h.1, fun b a c => ?_, h.2.2⟩
  by_cases q : b = m
  · rw [q]; exact ⟨e0, e1, e2, e3⟩
  · exact h.2.1 b a (by omega)
/-- what a text is told of by its rows -/
theorem y_TX.r {g r s : z_M} {k f t bb : Int} (h : y_TX g k r f bb) (hn : r (316 + f) 0 ≤ 200) (e0 : s (316 + t) 0 = r (316 + f) 0) (e2 : s (316 + t) 2 = r (316 + f) 2) (e : ∀ b : Int, 0 ≤ b → b < 200 → s (331 + t) b = r (331 + f) b ∧ s (346 + t) b = r (346 + f) b ∧ s (361 + t) b = r (361 + f) b ∧ s (376 + t) b = r (376 + f) b) : y_TX g k s t bb := by
  obtain ⟨a1, a2, a3, a4⟩ := h
  refine ⟨by rw [e0]; exact a1, by rw [e2]; exact a2, a3, fun i p q => ?_⟩
  rw [e0] at q
  obtain ⟨b1, b2, b3, b4⟩ := a4 i p q
  obtain ⟨x1, x2, x3, x4⟩ := e i p (by omega)
  refine ⟨by rw [x3]; exact b1, by rw [x1]; exact b2, by rw [x4]; exact b3, ?_⟩
  have hb : y_bs s t i ↔ y_bs r f i := by
    unfold y_bs
    by_cases z : i = 0
    · exact ⟨fun _ => Or.inl z, fun _ => Or.inl z⟩
    · obtain ⟨w1, w2, w3, w4⟩ := e (i - 1) (by omega) (by omega)
      rw [w2, w3, x3]
  have hc : y_bb s t i ↔ y_bb r f i := by
    unfold y_bb
    rw [x3]
    exact ⟨fun h j u v => by rw [← (e j u (by omega)).2.2.1]; exact h j u v, fun h j u v => by rw [(e j u (by omega)).2.2.1]; exact h j u v⟩
  rw [x2, hb, hc, x3]
  exact b4
theorem y_TX.cp {g r s : z_M} {k f t bb : Int} (h : y_TX g k r f bb) (c : y_CF r s f t 3 200) (hn : r (316 + f) 0 ≤ 200) : y_TX g k s t bb :=
  h.r hn (c.1 0 (by omega) (by omega)) (c.1 2 (by omega) (by omega)) c.2.1
theorem y_TX.ck {g r s : z_M} {k f t u bb : Int} (h : y_TX g k r u bb) (c : y_CF r s f t 3 200) (hu : 0 ≤ u ∧ u ≤ 13) (hne : u ≠ t) (hn : r (316 + u) 0 ≤ 200) : y_TX g k s u bb :=
  h.r hn (c.2.2 u hu.1 hu.2 hne 0).1 (c.2.2 u hu.1 hu.2 hne 2).1 (fun b _ _ => (c.2.2 u hu.1 hu.2 hne b).2)
