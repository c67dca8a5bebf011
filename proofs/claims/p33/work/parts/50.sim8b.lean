/-! The kept texts of the reference -/
/-- text t of s is text f of r -/
def y_RS2 (r s : z_M) (t f : Int) : Prop := s (316 + t) 0 = r (316 + f) 0 ∧ s (316 + t) 1 = r (316 + f) 1 ∧ s (316 + t) 2 = r (316 + f) 2 ∧ (∀ b : Int, 0 ≤ b → b < 200 → s (331 + t) b = r (331 + f) b ∧ s (346 + t) b = r (346 + f) b ∧ s (361 + t) b = r (361 + f) b ∧ s (376 + t) b = r (376 + f) b) ∧ y_RGL r s t f
theorem y_RS2.rf {r : z_M} {t : Int} : y_RS2 r r t t := ⟨rfl, rfl, rfl, fun _ _ _ => ⟨rfl, rfl, rfl, rfl⟩, y_RGL.rf⟩
theorem y_RS2.tr {r s s' : z_M} {t f u : Int} (h : y_RS2 r s t f) (k : y_RS2 s s' u t) : y_RS2 r s' u f := by
  refine ⟨k.1.trans h.1, k.2.1.trans h.2.1, k.2.2.1.trans h.2.2.1, fun b p q => ?_, h.2.2.2.2.tr k.2.2.2.2 h.2.1⟩
  obtain ⟨x1, x2, x3, x4⟩ := k.2.2.2.1 b p q
  obtain ⟨z1, z2, z3, z4⟩ := h.2.2.2.1 b p q
  exact ⟨x1.trans z1, x2.trans z2, x3.trans z3, x4.trans z4⟩
theorem y_CF.cp {r s : z_M} {f t : Int} (c : y_CF r s f t 3 200) (cl : y_CL r s f t 200) : y_RS2 r s t f := ⟨c.1 0 (by omega) (by omega), c.1 1 (by omega) (by omega), c.1 2 (by omega) (by omega), c.2.1, cl.cp⟩
theorem y_CF.ck {r s : z_M} {f t u : Int} (c : y_CF r s f t 3 200) (cl : y_CL r s f t 200) (hu : 0 ≤ u ∧ u ≤ 13) (hne : u ≠ t) : y_RS2 r s u u :=
  ⟨(c.2.2 u hu.1 hu.2 hne 0).1, (c.2.2 u hu.1 hu.2 hne 1).1, (c.2.2 u hu.1 hu.2 hne 2).1, fun b _ _ => (c.2.2 u hu.1 hu.2 hne b).2, cl.ck hu hne⟩
theorem y_RS2.fr {r s s' : z_M} {t f : Int} (ht : 0 ≤ t ∧ t ≤ 13) (h : y_RS2 r s t f) (k1 : ∀ a b : Int, 316 ≤ a ∧ a ≤ 329 → s' a b = s a b) (k0 : ∀ a b : Int, 331 ≤ a ∧ a ≤ 344 → s' a b = s a b) (k2 : ∀ a b : Int, 346 ≤ a ∧ a ≤ 359 → s' a b = s a b) (k3 : ∀ a b : Int, 361 ≤ a ∧ a ≤ 374 → s' a b = s a b) (k4 : ∀ a b : Int, 376 ≤ a ∧ a ≤ 389 → s' a b = s a b) (k5 : ∀ a b : Int, 391 ≤ a ∧ a ≤ 404 → s' a b = s a b) (k6 : ∀ a b : Int, 407 ≤ a ∧ a ≤ 3219 → s' a b = s a b) : y_RS2 r s' t f :=
  h.tr ⟨k1 _ _ (by omega), k1 _ _ (by omega), k1 _ _ (by omega), fun b _ _ => ⟨k0 _ _ (by omega), k2 _ _ (by omega), k3 _ _ (by omega), k4 _ _ (by omega)⟩, y_RGL.fr ht k5 k6⟩
theorem y_TX.rs {g r s : z_M} {k f t bb : Int} (h : y_TX g k r f bb) (c : y_RS2 r s t f) (hn : r (316 + f) 0 ≤ 200) : y_TX g k s t bb := h.r hn c.1 c.2.2.1 c.2.2.2.1
/-- the shift of the kept texts, before text k -/
def y_SH (r s : z_M) (k : Int) : Prop := (∀ j : Int, 1 ≤ j → j < k - 1 → y_RS2 r s j (j + 1)) ∧ (∀ j : Int, k - 1 ≤ j → j ≤ 12 → 1 ≤ j → y_RS2 r s j j) ∧ y_RS2 r s 0 0 ∧ y_RS2 r s 13 13
theorem y_SH.cg {r s : z_M} {k k' : Int} (h : y_SH r s k) (e : k' = k) : y_SH r s k' := by subst e; exact h
theorem y_SH.z {r : z_M} {k : Int} (hk : k = 2) : y_SH r r k := by
  subst hk
  exact ⟨fun j a b => by omega, fun j a b _ => y_RS2.rf, y_RS2.rf, y_RS2.rf⟩
theorem y_SH.fr {r s s' : z_M} {k : Int} (h : y_SH r s k) (k1 : ∀ a b : Int, 316 ≤ a ∧ a ≤ 329 → s' a b = s a b) (k0 : ∀ a b : Int, 331 ≤ a ∧ a ≤ 344 → s' a b = s a b) (k2 : ∀ a b : Int, 346 ≤ a ∧ a ≤ 359 → s' a b = s a b) (k3 : ∀ a b : Int, 361 ≤ a ∧ a ≤ 374 → s' a b = s a b) (k4 : ∀ a b : Int, 376 ≤ a ∧ a ≤ 389 → s' a b = s a b) (k5 : ∀ a b : Int, 391 ≤ a ∧ a ≤ 404 → s' a b = s a b) (k6 : ∀ a b : Int, 407 ≤ a ∧ a ≤ 3219 → s' a b = s a b) (hk : k ≤ 14) : y_SH r s' k :=
  ⟨fun j a b => (h.1 j a b).fr (by omega) k1 k0 k2 k3 k4 k5 k6, fun j a b c => (h.2.1 j a b c).fr (by omega) k1 k0 k2 k3 k4 k5 k6, h.2.2.1.fr (by omega) k1 k0 k2 k3 k4 k5 k6, h.2.2.2.fr (by omega) k1 k0 k2 k3 k4 k5 k6⟩
theorem y_SH.nx {r s s' : z_M} {k j : Int} (h : y_SH r s k) (c : y_CF s s' k j 3 200) (cl : y_CL s s' k j 200) (hj : j = k - 1) (hk : 2 ≤ k ∧ k ≤ 12) : y_SH r s' (k + 1) := by
  subst hj
  refine ⟨fun j a b => ?_, fun j a b d => ?_, h.2.2.1.tr (c.ck cl (by omega) (by omega)), h.2.2.2.tr (c.ck cl (by omega) (by omega))⟩
  · by_cases q : j = k - 1
    · subst q
      have := (h.2.1 k (by omega) hk.2 (by omega)).tr (c.cp cl)
      rw [show k - 1 + 1 = k by omega]; exact this
    · exact (h.1 j a (by omega)).tr (c.ck cl (by omega) q)
  · exact (h.2.1 j (by omega) b d).tr (c.ck cl (by omega) (by omega))
/-- before the present text is kept: room is made -/
def y_SJ (r s : z_M) : Prop := y_RS2 r s 0 0 ∧ y_RS2 r s 13 13 ∧ (((0 ≤ r 309 19 ∧ r 309 19 < 12) ∧ s 309 19 = r 309 19 ∧ ∀ j : Int, 1 ≤ j → j ≤ 12 → y_RS2 r s j j) ∨ (r 309 19 = 12 ∧ s 309 19 = 11 ∧ ∀ j : Int, 1 ≤ j → j ≤ 11 → y_RS2 r s j (j + 1)))
theorem y_SJ.z {r : z_M} (h : 0 ≤ r 309 19 ∧ r 309 19 < 12) : y_SJ r r := ⟨y_RS2.rf, y_RS2.rf, Or.inl ⟨h, rfl, fun j _ _ => y_RS2.rf⟩⟩
theorem y_SJ.s {r s : z_M} {k : Int} (h : y_SH r s k) (hk : 13 ≤ k) (e : r 309 19 = 12) (e2 : s 309 19 = 11) : y_SJ r s := ⟨h.2.2.1, h.2.2.2, Or.inr ⟨e, e2, fun j a b => h.1 j a (by omega)⟩⟩
/-- the draft stands: the present text is kept, the oldest one gives way -/
def y_ST (r s : z_M) : Prop := y_RS2 r s 0 13 ∧ (((0 ≤ r 309 19 ∧ r 309 19 < 12) ∧ s 309 19 = r 309 19 + 1 ∧ y_RS2 r s (r 309 19 + 1) 0 ∧ ∀ j : Int, 1 ≤ j → j ≤ r 309 19 → y_RS2 r s j j) ∨ (r 309 19 = 12 ∧ s 309 19 = 12 ∧ y_RS2 r s 12 0 ∧ ∀ j : Int, 1 ≤ j → j ≤ 11 → y_RS2 r s j (j + 1)))
theorem y_ST.mk {r s s1 s2 s3 : z_M} {b : Int} (h : y_SJ r s) (k : ∀ u : Int, 0 ≤ u ∧ u ≤ 13 → y_RS2 s s1 u u) (hb : b = s 309 19 + 1) (hr : 0 ≤ s 309 19 ∧ s 309 19 ≤ 11) (c : y_CF s1 s2 0 b 3 200) (cl : y_CL s1 s2 0 b 200) (d : y_CF s2 s3 13 0 3 200) (dl : y_CL s2 s3 13 0 200) (e : s3 309 19 = b) : y_ST r s3 := by
  have x13 : y_RS2 r s3 0 13 := ((h.2.1.tr (k 13 (by omega))).tr (c.ck cl (by omega) (by omega))).tr (d.cp dl)
  have xb : y_RS2 r s3 b 0 := ((h.1.tr (k 0 (by omega))).tr (c.cp cl)).tr (d.ck dl (by omega) (by omega))
  refine ⟨x13, ?_⟩
  rcases h.2.2 with ⟨q1, q2, q3⟩ | ⟨q1, q2, q3⟩
  · refine Or.inl ⟨q1, by omega, ?_, fun j u v => (((q3 j u (by omega)).tr (k j (by omega))).tr (c.ck cl (by omega) (by omega))).tr (d.ck dl (by omega) (by omega))⟩
    rw [show r 309 19 + 1 = b by omega]; exact xb
  · refine Or.inr ⟨q1, by omega, ?_, fun j u v => (((q3 j u v).tr (k j (by omega))).tr (c.ck cl (by omega) (by omega))).tr (d.ck dl (by omega) (by omega))⟩
    rw [show (12 : Int) = b by omega]; exact xb
theorem y_ST.fr {r s s' : z_M} (h : y_ST r s) (e : s' 309 19 = s 309 19) (k1 : ∀ a b : Int, 316 ≤ a ∧ a ≤ 329 → s' a b = s a b) (k0 : ∀ a b : Int, 331 ≤ a ∧ a ≤ 344 → s' a b = s a b) (k2 : ∀ a b : Int, 346 ≤ a ∧ a ≤ 359 → s' a b = s a b) (k3 : ∀ a b : Int, 361 ≤ a ∧ a ≤ 374 → s' a b = s a b) (k4 : ∀ a b : Int, 376 ≤ a ∧ a ≤ 389 → s' a b = s a b) (k5 : ∀ a b : Int, 391 ≤ a ∧ a ≤ 404 → s' a b = s a b) (k6 : ∀ a b : Int, 407 ≤ a ∧ a ≤ 3219 → s' a b = s a b) : y_ST r s' := by
  refine ⟨h.1.fr (by omega) k1 k0 k2 k3 k4 k5 k6, ?_⟩
  rw [e]
  rcases h.2 with ⟨q1, q2, q3, q4⟩ | ⟨q1, q2, q3, q4⟩
  · exact Or.inl ⟨q1, q2, q3.fr (by omega) k1 k0 k2 k3 k4 k5 k6, fun j u v => (q4 j u v).fr (by omega) k1 k0 k2 k3 k4 k5 k6⟩
  · exact Or.inr ⟨q1, q2, q3.fr (by omega) k1 k0 k2 k3 k4 k5 k6, fun j u v => (q4 j u v).fr (by omega) k1 k0 k2 k3 k4 k5 k6⟩
/-- groups and letters by such a text -/
theorem y_XT.rs {g r s : z_M} {k f t : Int} (h : y_XT g k r f) (c : y_RS2 r s t f) (hn : r (316 + f) 0 ≤ 200) (hb : r (316 + f) 1 ≤ 200) (hb0 : 0 ≤ r (316 + f) 1) : y_XT g k s t := by
  have eg : y_gt s t = y_gt r f := by
    unfold y_gt
    rw [c.2.1]
    by_cases q : r (316 + f) 1 = 0
    · rw [if_pos q, if_pos q]
    · rw [if_neg q, if_neg q, c.2.2.2.2.1 _ (by omega) (by omega)]
  unfold y_XT
  rw [eg, c.1, c.2.1]
  refine ⟨?_, h.2⟩
  refine y_XF.cg h.1 rfl (Int.le_refl _) (fun i a b => ?_) (fun b p q => ?_)
  · have w := c.2.2.2.1 i a (by omega)
    exact ⟨w.2.1, w.2.2.1, rfl, rfl, rfl, rfl⟩
  · have w := c.2.2.2.2.2 b p (by omega) q
    exact ⟨c.2.2.2.2.1 b p (by omega), w.1, w.2⟩
