/-! GROUPS of a text that was cut: the class counts anew, the reference numbers anew -/
def y_K2 (kd bt nu ga gr st bo : Int → Int) (n so : Int) : Prop :=
  (∀ j : Int, 0 ≤ j → j < n → (kd j = 7 ∧ 0 ≤ bt j ∧ ga j = gr (bt j) ∧ ga j ≠ -1 ∧ 0 ≤ nu j ∧ nu j < so) ∨ (kd j ≠ 7 ∧ ga j = -1)) ∧
  (∀ i j : Int, 0 ≤ i → i < j → j < n → kd i = 7 → kd j = 7 → bt i ≤ bt j ∧ (bt i < bt j → nu i < nu j) ∧ (bt i = bt j → nu i = nu j)) ∧
  (∀ i j m : Int, 0 ≤ i → i < m → m < j → j < n → ga i = ga j → ga i ≠ -1 → ga m = ga i) ∧
  (∀ k : Int, 0 ≤ k → k < so → (∃ j, 0 ≤ j ∧ j < n ∧ kd j = 7 ∧ bt j = bo k ∧ nu j = k) ∧ ((k = 0 ∧ st k = 0) ∨ (1 ≤ k ∧ ((gr (bo k) = gr (bo (k - 1)) ∧ st k = st (k - 1)) ∨ (gr (bo k) ≠ gr (bo (k - 1)) ∧ st k = st (k - 1) + 1)))))
section ZK
variable {kd bt nu ga gr st bo : Int → Int} {n so : Int}
theorem y_K2.b (h : y_K2 kd bt nu ga gr st bo n so) {j : Int} (h0 : 0 ≤ j) (h1 : j < n) (h7 : kd j = 7) : bt j = bo (nu j) := by
  have a := (h.1 j h0 h1).resolve_right (fun z => z.1 h7)
  obtain ⟨i, i0, i1, i7, ib, iv⟩ := (h.2.2.2 (nu j) a.2.2.2.2.1 a.2.2.2.2.2).1
  rw [← ib]
  rcases Int.lt_trichotomy i j with z | z | z
  · have w := h.2.1 i j i0 z h1 i7 h7
    by_cases q : bt i < bt j
    · have := w.2.1 q; omega
    · omega
  · rw [z]
  · have w := h.2.1 j i h0 z i1 h7 i7
    by_cases q : bt j < bt i
    · have := w.2.1 q; omega
    · omega
theorem y_K2.nx (h : y_K2 kd bt nu ga gr st bo n so) {i j : Int} (h0 : 0 ≤ i) (hij : i < j) (h1 : j < n) (i7 : kd i = 7) (j7 : kd j = 7) (lt : bt i < bt j) (no : ∀ m : Int, i < m → m < j → kd m ≠ 7) : nu j = nu i + 1 := by
  have ai := (h.1 i h0 (by omega)).resolve_right (fun z => z.1 i7)
  have aj := (h.1 j (by omega) h1).resolve_right (fun z => z.1 j7)
  have l1 := (h.2.1 i j h0 hij h1 i7 j7).2.1 lt
  by_cases q : nu j = nu i + 1
  · exact q
  · exfalso
    obtain ⟨m, m0, m1, m7, mb, mv⟩ := (h.2.2.2 (nu i + 1) (by omega) (by omega)).1
    rcases Int.lt_trichotomy m i with z | z | z
    · have w := h.2.1 m i m0 z (by omega) m7 i7
      by_cases q2 : bt m < bt i
      · have := w.2.1 q2; omega
      · have := w.2.2 (by omega); omega
    · rw [z] at mv; omega
    · rcases Int.lt_trichotomy m j with y | y | y
      · exact no m z y m7
      · rw [y] at mv; omega
      · have w := h.2.1 j m (by omega) y m1 j7 m7
        by_cases q2 : bt j < bt m
        · have := w.2.1 q2; omega
        · have := w.2.2 (by omega); omega
theorem y_K2.fs (h : y_K2 kd bt nu ga gr st bo n so) {j : Int} (h0 : 0 ≤ j) (h1 : j < n) (j7 : kd j = 7) (no : ∀ m : Int, 0 ≤ m → m < j → kd m ≠ 7) : nu j = 0 := by
  have aj := (h.1 j h0 h1).resolve_right (fun z => z.1 j7)
  obtain ⟨m, m0, m1, m7, mb, mv⟩ := (h.2.2.2 0 (by omega) (by omega)).1
  rcases Int.lt_trichotomy m j with y | y | y
  · exact absurd m7 (no m m0 y)
  · rw [← y]; exact mv
  · have w := h.2.1 j m h0 y m1 j7 m7
    by_cases q2 : bt j < bt m
    · have := w.2.1 q2; omega
    · have := w.2.2 (by omega); omega
/-- the last sign of a base before j -/
theorem y_lastb (kd : Int → Int) : ∀ j : Nat, (∀ i : Int, 0 ≤ i → i < j → kd i ≠ 7) ∨ ∃ i : Int, 0 ≤ i ∧ i < j ∧ kd i = 7 ∧ ∀ m : Int, i < m → m < j → kd m ≠ 7 := by
  intro j
  induction j with
  | zero => exact Or.inl (fun i a b => by omega)
  | succ j ih =>
    by_cases q : kd j = 7
    · exact Or.inr ⟨j, by omega, by omega, q, fun m a b => by omega⟩
    · rcases ih with ih | ⟨i, a, b, c, d⟩
      · refine Or.inl (fun i a b => ?_)
        by_cases z : i = j
        · rw [z]; exact q
        · exact ih i a (by omega)
      · refine Or.inr ⟨i, a, by omega, c, fun m x y => ?_⟩
        by_cases z : m = j
        · rw [z]; exact q
        · exact d m x (by omega)
theorem y_K2.gc (h : y_K2 kd bt nu ga gr st bo n so) : ∀ j : Nat, (j : Int) ≤ n → ((∀ i : Int, 0 ≤ i → i < j → kd i ≠ 7) → y_gc ga j = 0) ∧ ∀ i : Int, 0 ≤ i → i < j → kd i = 7 → (∀ m : Int, i < m → m < j → kd m ≠ 7) → y_gc ga j = st (nu i) + 1 := by
  intro j
  induction j with
  | zero => intro _; exact ⟨fun _ => rfl, fun i a b => by omega⟩
  | succ j ih =>
    intro hj
    obtain ⟨ih0, ih1⟩ := ih (by omega)
    have e : y_gc ga (j + 1) = if ga j = -1 then y_gc ga j else if j ≠ 0 ∧ ga ((j : Int) - 1) = ga j then y_gc ga j else y_gc ga j + 1 := rfl
    rcases h.1 j (by omega) (by omega) with ⟨k7, k1, k2, k3, k4, k5⟩ | ⟨k7, k1⟩
    · refine ⟨fun z => absurd k7 (z j (by omega) (by omega)), fun i i0 i1 i7 no => ?_⟩
      have ij : i = j := by
        by_cases z : i = j
        · exact z
        · exact absurd k7 (no j (by omega) (by omega))
      subst ij
      rw [e, if_neg k3]
      rcases y_lastb kd j with nb | ⟨p, p0, p1, p7, pn⟩
      · have v := h.fs (by omega) (by omega) k7 (fun m a b => nb m a b)
        have s0 := (h.2.2.2 0 (by omega) (by omega)).2
        rw [if_neg, ih0 nb, v]
        · omega
        · intro ⟨z1, z2⟩
          rcases h.1 ((j : Int) - 1) (by omega) (by omega) with w | w
          · exact nb _ (by omega) (by omega) w.1
          · rw [w.2] at z2; exact k3 z2.symm
      · have gj := ih1 p p0 p1 p7 pn
        have ap := (h.1 p p0 (by omega)).resolve_right (fun z => z.1 p7)
        have mono := h.2.1 p j p0 p1 (by omega) p7 k7
        -- the same group: the signs between have it, too
        have adj : gr (bt p) = gr (bt j) → p = (j : Int) - 1 := fun eg => by
          by_cases z : p = (j : Int) - 1
          · exact z
          · exfalso
            have w := h.2.2.1 p j ((j : Int) - 1) p0 (by omega) (by omega) (by omega) (by rw [ap.2.2.1, k2, eg]) ap.2.2.2.1
            rcases h.1 ((j : Int) - 1) (by omega) (by omega) with y | y
            · exact pn _ (by omega) (by omega) y.1
            · rw [y.2] at w; exact ap.2.2.2.1 w.symm
        have nadj : gr (bt p) ≠ gr (bt j) → ga ((j : Int) - 1) ≠ ga j := fun ng z => by
          by_cases y : p = (j : Int) - 1
          · rw [← y, ap.2.2.1, k2] at z; exact ng z
          · rcases h.1 ((j : Int) - 1) (by omega) (by omega) with x | x
            · exact pn _ (by omega) (by omega) x.1
            · rw [x.2] at z; exact k3 z.symm
        by_cases lt : bt p < bt j
        · have v := h.nx p0 p1 (by omega) p7 k7 lt pn
          have s1 := ((h.2.2.2 (nu j) k4 k5).2).resolve_left (fun z => by omega)
          have eb : bo (nu j) = bt j := (h.b (by omega) (by omega) k7).symm
          have ep : bo (nu j - 1) = bt p := by rw [show nu j - 1 = nu p by omega]; exact (h.b p0 (by omega) p7).symm
          rw [eb, ep, show nu j - 1 = nu p by omega] at s1
          rcases s1.2 with ⟨q1, q2⟩ | ⟨q1, q2⟩
          · have z := adj q1.symm
            rw [if_pos ⟨by omega, by rw [← z, ap.2.2.1, k2, q1]⟩, gj, q2]
          · rw [if_neg (fun z => nadj (fun y => q1 y.symm) z.2), gj, q2]
        · have eb : bt p = bt j := by omega
          have ev := mono.2.2 eb
          have z := adj (by rw [eb])
          rw [if_pos ⟨by omega, by rw [← z, ap.2.2.1, k2, eb]⟩, gj, ev]
    · rw [e, if_pos k1]
      refine ⟨fun z => ih0 (fun i a b => z i a (by omega)), fun i i0 i1 i7 no => ?_⟩
      have ij : i ≠ j := fun z => by rw [z] at i7; exact k7 i7
      exact ih1 i i0 (by omega) i7 (fun m a b => no m a (by omega))
theorem y_K2.rn (h : y_K2 kd bt nu ga gr st bo n so) (j : Nat) (hj : (j : Int) < n) : y_rn ga j = if kd j = 7 then st (nu j) else -1 := by
  unfold y_rn
  rcases h.1 j (by omega) hj with ⟨k7, k1, k2, k3, k4, k5⟩ | ⟨k7, k1⟩
  · rw [if_neg k3, if_pos k7, (h.gc (j + 1) (by omega)).2 j (by omega) (by omega) k7 (fun m a b => by omega)]
    omega
  · rw [if_pos k1, if_neg k7]
theorem y_K2.stq (h : y_K2 kd bt nu ga gr st bo n so) : ∀ (m : Nat) (k : Int), 0 ≤ k → k + m < so → st k ≤ st (k + m) ∧ (st k = st (k + m) → gr (bo k) = gr (bo (k + m))) := by
  intro m
  induction m with
  | zero => intro k _ _; rw [show k + ((0 : Nat) : Int) = k by omega]; exact ⟨Int.le_refl _, fun _ => rfl⟩
  | succ m ih =>
    intro k h0 h1
    obtain ⟨a, b⟩ := ih k h0 (by omega)
    have s1 := ((h.2.2.2 (k + ((m + 1 : Nat) : Int)) (by omega) h1).2).resolve_left (fun z => by omega)
    rw [show k + ((m + 1 : Nat) : Int) - 1 = k + m by omega] at s1
    rcases s1.2 with ⟨q1, q2⟩ | ⟨q1, q2⟩
    · exact ⟨by omega, fun z => (b (by omega)).trans q1.symm⟩
    · exact ⟨by omega, fun z => by omega⟩
theorem y_K2.stq' (h : y_K2 kd bt nu ga gr st bo n so) {k k' : Int} (h0 : 0 ≤ k) (h1 : k ≤ k') (h2 : k' < so) : st k ≤ st k' ∧ (st k = st k' → gr (bo k) = gr (bo k')) := by
  have w := h.stq (k' - k).toNat k h0 (by omega)
  rw [show k + (((k' - k).toNat : Nat) : Int) = k' by omega] at w
  exact w
theorem y_K2.tot (h : y_K2 kd bt nu ga gr st bo n so) (hn : 0 ≤ n) : y_gc ga n.toNat = if so ≤ 0 then 0 else st (so - 1) + 1 := by
  obtain ⟨g0, g1⟩ := h.gc n.toNat (by omega)
  have en : ((n.toNat : Nat) : Int) = n := by omega
  rw [en] at g0 g1
  by_cases q : so ≤ 0
  · rw [if_pos q]
    refine g0 (fun i a b z => ?_)
    have w := (h.1 i a b).resolve_right (fun y => y.1 z)
    omega
  · rw [if_neg q]
    obtain ⟨m, m0, m1, m7, mb, mv⟩ := (h.2.2.2 (so - 1) (by omega) (by omega)).1
    rcases y_lastb kd n.toNat with nb | ⟨p, p0, p1, p7, pn⟩
    · exact absurd m7 (nb m m0 (by omega))
    · rw [en] at p1 pn
      have ap := (h.1 p p0 p1).resolve_right (fun z => z.1 p7)
      have : nu p = so - 1 := by
        rcases Int.lt_trichotomy m p with z | z | z
        · have w := h.2.1 m p m0 z p1 m7 p7
          by_cases q2 : bt m < bt p
          · have := w.2.1 q2; omega
          · have := w.2.2 (by omega); omega
        · rw [← z]; exact mv
        · exact absurd m7 (pn m z m1)
      rw [g1 p p0 p1 p7 pn, this]
theorem y_K2.ct (h : y_K2 kd bt nu ga gr st bo n so) {cg : Int → Int} (e : ∀ j : Int, 0 ≤ j → j < n → cg j = if kd j = 7 then st (nu j) else -1) : y_CT cg n := fun i j m h1 h2 h3 h4 h5 h6 => by
  rw [e i h1 (by omega)] at h5 h6 ⊢
  rw [e j (by omega) h4] at h5
  rw [e m (by omega) (by omega)]
  by_cases i7 : kd i = 7
  · rw [if_pos i7] at h5 h6 ⊢
    by_cases j7 : kd j = 7
    · rw [if_pos j7] at h5
      have ai := (h.1 i h1 (by omega)).resolve_right (fun z => z.1 i7)
      have aj := (h.1 j (by omega) h4).resolve_right (fun z => z.1 j7)
      have wij := h.2.1 i j h1 (by omega) h4 i7 j7
      have lij : nu i ≤ nu j := by
        by_cases q : bt i < bt j
        · have := wij.2.1 q; omega
        · have := wij.2.2 (by omega); omega
      have sij := h.stq' ai.2.2.2.2.1 lij aj.2.2.2.2.2
      have eg := sij.2 h5
      rw [← h.b h1 (by omega) i7, ← h.b (by omega) h4 j7] at eg
      have gm := h.2.2.1 i j m h1 h2 h3 h4 (by rw [ai.2.2.1, aj.2.2.1, eg]) ai.2.2.2.1
      rcases h.1 m (by omega) (by omega) with am | am
      · rw [if_pos am.1]
        have w1 := h.2.1 i m h1 h2 (by omega) i7 am.1
        have w2 := h.2.1 m j (by omega) h3 h4 am.1 j7
        have l1 : nu i ≤ nu m := by
          by_cases q : bt i < bt m
          · have := w1.2.1 q; omega
          · have := w1.2.2 (by omega); omega
        have l2 : nu m ≤ nu j := by
          by_cases q : bt m < bt j
          · have := w2.2.1 q; omega
          · have := w2.2.2 (by omega); omega
        have s1 := (h.stq' ai.2.2.2.2.1 l1 am.2.2.2.2.2).1
        have s2 := (h.stq' am.2.2.2.2.1 l2 aj.2.2.2.2.2).1
        omega
      · rw [am.2] at gm
        exact absurd gm.symm ai.2.2.2.1
    · rw [if_neg j7] at h5; exact absurd h5 h6
  · rw [if_neg i7] at h6; exact absurd rfl h6
theorem y_K2.cb (h : y_K2 kd bt nu ga gr st bo n so) {cg : Int → Int} {c : Int} (e : ∀ j : Int, 0 ≤ j → j < n → cg j = if kd j = 7 then st (nu j) else -1) (hc : c = if so ≤ 0 then 0 else st (so - 1) + 1) : y_CLB cg n c := fun j h0 h1 => by
  rw [e j h0 h1]
  by_cases q : so ≤ 0
  · rw [if_pos q] at hc
    by_cases j7 : kd j = 7
    · have aj := (h.1 j h0 h1).resolve_right (fun z => z.1 j7)
      omega
    · rw [if_neg j7]; omega
  · rw [if_neg q] at hc
    have s0 := ((h.2.2.2 0 (by omega) (by omega)).2)
    have z := (h.stq' (k := 0) (k' := so - 1) (Int.le_refl _) (by omega) (by omega)).1
    by_cases j7 : kd j = 7
    · have aj := (h.1 j h0 h1).resolve_right (fun z => z.1 j7)
      rw [if_pos j7]
      have w := (h.stq' (k' := so - 1) aj.2.2.2.2.1 (by omega) (by omega)).1
      omega
    · rw [if_neg j7]; omega
end ZK
