/-! CUT in the reference -/
/-- bases grow from sign to sign -/
def y_WF (s : z_M) : Prop := ∀ i : Int, 0 ≤ i → i < s 316 0 → (s 346 i = 7 ∧ ((y_bs s 0 i ∧ y_bb s 0 i) ∨ ¬ y_bs s 0 i)) ∨ (s 346 i ≠ 7 ∧ s 361 i = -1)
theorem y_bs0 {s : z_M} {i : Int} : y_bs s 0 i ↔ (i = 0 ∨ s 346 (i - 1) ≠ 7 ∨ s 361 (i - 1) ≠ s 361 i) := by
  unfold y_bs
  rw [show (346 + 0 : Int) = 346 by decide, show (361 + 0 : Int) = 361 by decide]
theorem y_bb0 {s : z_M} {i : Int} : y_bb s 0 i ↔ (∀ j : Int, 0 ≤ j → j < i → s 361 j < s 361 i) := by
  unfold y_bb
  rw [show (361 + 0 : Int) = 361 by decide]
theorem y_WF.fr {s s' : z_M} (h : y_WF s) (e : s' 316 0 = s 316 0) (k : ∀ b, s' 346 b = s 346 b) (k2 : ∀ b, s' 361 b = s 361 b) : y_WF s' := fun i p q => by
  have w := h i p (by omega)
  rw [y_bs0, y_bb0] at *
  simp only [k, k2]
  exact w
theorem y_TX.WF {g s : z_M} {k bb : Int} (h : y_TX g k s 0 bb) : y_WF s := fun i p q => by
  obtain ⟨_, _, _, a4⟩ := h
  rw [show (316 + 0 : Int) = 316 by decide] at a4
  obtain ⟨_, _, _, w⟩ := a4 i p q
  rw [show (346 + 0 : Int) = 346 by decide, show (361 + 0 : Int) = 361 by decide] at w
  rcases w with ⟨w1, w2, _, w3⟩ | ⟨w1, w2, _, _, w3⟩
  · refine Or.inl ⟨w1, ?_⟩
    rcases w3 with ⟨_, x, y⟩ | ⟨_, x⟩
    · exact Or.inl ⟨x, y⟩
    · exact Or.inr x
  · refine Or.inr ⟨?_, w3⟩
    intro z
    have q := y_ki_cases (g (k + 2) i)
    rw [← w1, z] at q
    rcases q with ⟨q, _⟩ | ⟨_, q, _⟩ | ⟨q, _⟩ <;> omega
/-- they don't go down -/
theorem y_WF.le {s : z_M} (h : y_WF s) {i : Int} (hi : 0 ≤ i) : ∀ m : Nat, i + m < s 316 0 → 0 ≤ s 361 (i + m) → s 361 i ≤ s 361 (i + m) := by
  intro m
  induction m with
  | zero => intro _ _; rw [show i + ((0 : Nat) : Int) = i by omega]; exact Int.le_refl _
  | succ m ih =>
    intro h1 h2
    have e : i + ((m + 1 : Nat) : Int) - 1 = i + m := by omega
    rcases h (i + ((m + 1 : Nat) : Int)) (by omega) h1 with ⟨_, w | w⟩ | ⟨_, w⟩
    · have q := (y_bb0.mp w.2) i hi (by omega)
      omega
    · rw [y_bs0, e] at w
      have w3 : s 361 (i + m) = s 361 (i + ((m + 1 : Nat) : Int)) := by
        by_cases z : s 361 (i + m) = s 361 (i + ((m + 1 : Nat) : Int))
        · exact z
        · exact absurd (Or.inr (Or.inr z)) w
      have := ih (by omega) (by omega)
      omega
    · omega
theorem y_WF.mono {s : z_M} (h : y_WF s) {i j : Int} (hi : 0 ≤ i) (hj : i ≤ j) (hn : j < s 316 0) (h0 : 0 ≤ s 361 j) : s 361 i ≤ s 361 j := by
  have q := h.le hi (j - i).toNat
  have e : i + (((j - i).toNat : Nat) : Int) = j := by omega
  rw [e] at q
  exact q hn h0
/-- what is cut begins and ends with units -/
def y_UB (s : z_M) (A B : Int) : Prop := (0 ≤ A ∧ A < B ∧ B ≤ s 316 0) ∧ (B = s 316 0 ∨ y_sS s B = 1)
theorem y_UB.fr {s s' : z_M} {A B : Int} (h : y_UB s A B) (e : s' 316 0 = s 316 0) (k : ∀ b, s' 346 b = s 346 b) (k2 : ∀ b, s' 361 b = s 361 b) : y_UB s' A B := by
  unfold y_UB
  rw [e, y_sS_cg k k2]; exact h
theorem y_UB.cg {s : z_M} {A B A' B' : Int} (h : y_UB s A B) (e1 : A' = A) (e2 : B' = B) : y_UB s A' B' := by subst e1; subst e2; exact h
theorem y_PU.UB {s : z_M} {a b A B x y : Int} (h : y_PU s) (e1 : s 3221 a = A) (e2 : s 3221 b = x) (e3 : s 3222 b = y) (eB : B = x + y) (h0 : 0 ≤ a) (h1 : a ≤ b) (h2 : b < s 309 20) : y_UB s A B := by
  obtain ⟨hn, q⟩ := h
  obtain ⟨m, a1, a2, a3, a4, _⟩ := q.to y_sS_01 (v := b) (by omega) h2
  obtain ⟨j, b1, _, _, b4, _⟩ := q.at y_sS_01 (v := a) h0 (by omega)
  have le := q.le y_sS_01 h0 h1 h2
  subst e1; subst e2; subst e3; subst eB
  refine ⟨⟨by omega, by omega, by omega⟩, ?_⟩
  rw [a2]
  rcases a4 with r | r
  · left; omega
  · exact Or.inr r
theorem y_UB.bs {s : z_M} {A B : Int} (h : y_UB s A B) (hB : B < s 316 0) (h7 : s 346 B = 7) : s 361 B ≠ s 361 (B - 1) := by
  obtain ⟨⟨h0, h1, _⟩, h2 | h2⟩ := h
  · omega
  · intro q
    unfold y_sS y_one at h2
    rw [if_neg (by omega), if_neg (by omega), if_pos ⟨h7, q⟩] at h2
    exact absurd h2 (by decide)
/-- where a sign stood -/
def y_sc (A B j : Int) : Int := if j < A then j else j + (B - A)
theorem y_sc_b {A B j : Int} (h : A < B) (h0 : 0 ≤ A) (hj : 0 ≤ j) : 0 ≤ y_sc A B j ∧ j ≤ y_sc A B j := by
  unfold y_sc
  split <;> omega
theorem y_sc_lt {A B i j : Int} (h : A < B) (hj : i < j) : y_sc A B i < y_sc A B j := by
  unfold y_sc
  split <;> split <;> omega
def y_nwb (s : z_M) (b : Int) : Int := if b = -1 then -1 else s 7657 b
theorem y_nwb_n {s : z_M} {b : Int} (h : b = -1) : -1 = y_nwb s b := (if_pos h).symm
theorem y_nwb_y {s : z_M} {b x : Int} (h : b ≠ -1) (e : s 7657 b = x) : x = y_nwb s b := by
  unfold y_nwb
  rw [if_neg h]; exact e.symm
/-- the draft's rows as far as n -/
def y_CR (s : z_M) (A B n : Int) : Prop := ∀ j : Int, 0 ≤ j → j < n → s 344 j = s 331 (y_sc A B j) ∧ s 359 j = s 346 (y_sc A B j) ∧ s 374 j = y_nwb s (s 361 (y_sc A B j)) ∧ s 389 j = s 376 (y_sc A B j)
/-- the new numbers of bases -/
def y_CN (s : z_M) (A B n so : Int) : Prop := 0 ≤ so ∧ (∀ j : Int, 0 ≤ j → j < n → 0 ≤ s 361 (y_sc A B j) → 0 ≤ s 7657 (s 361 (y_sc A B j)) ∧ s 7657 (s 361 (y_sc A B j)) < so) ∧
  ∀ i j : Int, 0 ≤ i → i < j → j < n → 0 ≤ s 361 (y_sc A B i) → s 361 (y_sc A B i) < s 361 (y_sc A B j) → s 7657 (s 361 (y_sc A B i)) < s 7657 (s 361 (y_sc A B j))
def y_CU (s : z_M) (A B i n so : Int) : Prop := (0 ≤ i ∧ ((i ≤ A ∧ n = i) ∨ (A ≤ i ∧ i ≤ B ∧ n = A) ∨ (B ≤ i ∧ n = i - (B - A)))) ∧ y_CR s A B n ∧ y_CN s A B n so ∧
  ∀ b : Int, 0 ≤ b → b < 200 → s 7657 b = -1 ∨ ∃ j, 0 ≤ j ∧ j < n ∧ s 361 (y_sc A B j) = b
theorem y_CU.cg {s : z_M} {A B i n so A' B' i' n' so' : Int} (h : y_CU s A B i n so) (e1 : A' = A) (e2 : B' = B) (e3 : i' = i) (e4 : n' = n) (e5 : so' = so) : y_CU s A' B' i' n' so' := by
  subst e1; subst e2; subst e3; subst e4; subst e5; exact h
def y_CZ (s : z_M) (k : Int) : Prop := ∀ b : Int, 0 ≤ b → b < k → s 7657 b = -1
theorem y_CZ.z {s : z_M} {k : Int} (h : k ≤ 0) : y_CZ s k := fun b p q => by omega
theorem y_CZ.cg {s : z_M} {k k' : Int} (h : y_CZ s k) (e : k' ≤ k) : y_CZ s k' := fun b p q => h b p (by omega)
theorem y_CZ.fr {s s' : z_M} {k : Int} (h : y_CZ s k) (f : ∀ b, s' 7657 b = s 7657 b) : y_CZ s' k := fun b p q => by rw [f]; exact h b p q
theorem y_CZ.st {s s' : z_M} {k j v : Int} (h : y_CZ s k) (g2 : ∀ b : Int, b ≠ j → s' 7657 b = s 7657 b) (e : s' 7657 j = v) (hj : j = k) (hv : v = -1) : y_CZ s' (k + 1) := fun b p q => by
  by_cases z : b = j
  · rw [z, e]; exact hv
  · rw [g2 b z]; exact h b p (by omega)
theorem y_CU.z {s : z_M} {A B i n so : Int} (h : y_CZ s 200) (ub : y_UB s A B) (e1 : i = 0) (e2 : n = 0) (e3 : so = 0) : y_CU s A B i n so := by
  subst e1; subst e2; subst e3
  exact ⟨⟨Int.le_refl 0, Or.inl ⟨ub.1.1, rfl⟩⟩, fun j p q => by omega, ⟨Int.le_refl 0, fun j p q => by omega, fun i j p q r => by omega⟩, fun b p q => Or.inl (h b p q)⟩
theorem y_CR.st {s s' : z_M} {A B n : Int} (h : y_CR s A B n) (k : ∀ a b : Int, a = 331 ∨ a = 346 ∨ a = 361 ∨ a = 376 ∨ a = 7657 → s' a b = s a b) (k0 : ∀ b : Int, b < n → s' 344 b = s 344 b) (k1 : ∀ b : Int, b < n → s' 359 b = s 359 b) (k2 : ∀ b : Int, b < n → s' 374 b = s 374 b) (k3 : ∀ b : Int, b < n → s' 389 b = s 389 b) : y_CR s' A B n := fun j p q => by
  rw [k0 j q, k1 j q, k2 j q, k3 j q, k 331 _ (by decide), k 346 _ (by decide), k 361 _ (by decide), k 376 _ (by decide)]
  have e : ∀ b, y_nwb s' b = y_nwb s b := fun b => by
    unfold y_nwb
    rw [k 7657 _ (by decide)]
  rw [e]
  exact h j p q
theorem y_CN.st {s s' : z_M} {A B n so : Int} (h : y_CN s A B n so) (k : ∀ a b : Int, a = 361 ∨ a = 7657 → s' a b = s a b) : y_CN s' A B n so := by
  obtain ⟨a1, a2, a3⟩ := h
  refine ⟨a1, fun j p q => ?_, fun i j p q r => ?_⟩
  · rw [k 361 _ (by decide), k 7657 _ (by decide)]; exact a2 j p q
  · rw [k 361 _ (by decide), k 361 _ (by decide), k 7657 _ (by decide), k 7657 _ (by decide)]; exact a3 i j p q r
theorem y_CU.fr {s s' : z_M} {A B i n so : Int} (h : y_CU s A B i n so) (k0 : ∀ b, s' 331 b = s 331 b) (k1 : ∀ b, s' 346 b = s 346 b) (k2 : ∀ b, s' 361 b = s 361 b) (k3 : ∀ b, s' 376 b = s 376 b) (k4 : ∀ b, s' 344 b = s 344 b) (k5 : ∀ b, s' 359 b = s 359 b) (k6 : ∀ b, s' 374 b = s 374 b) (k7 : ∀ b, s' 389 b = s 389 b) (k8 : ∀ b, s' 7657 b = s 7657 b) : y_CU s' A B i n so := by
  obtain ⟨a1, a2, a3, a4⟩ := h
  refine ⟨a1, a2.st (fun a b h => by rcases h with rfl | rfl | rfl | rfl | rfl; exact k0 b; exact k1 b; exact k2 b; exact k3 b; exact k8 b) (fun b _ => k4 b) (fun b _ => k5 b) (fun b _ => k6 b) (fun b _ => k7 b), a3.st (fun a b h => by rcases h with rfl | rfl; exact k2 b; exact k8 b), fun b p q => ?_⟩
  rw [k8]
  rcases a4 b p q with r | ⟨j, r1, r2, r3⟩
  · exact Or.inl r
  · exact Or.inr ⟨j, r1, r2, by rw [k2]; exact r3⟩
/-- a sign that is cut -/
theorem y_CU.sk {s : z_M} {A B i n so i' n' so' : Int} (h : y_CU s A B i n so) (h1 : A ≤ i) (h2 : i < B) (e1 : i' = i + 1) (e2 : n' = n) (e3 : so' = so) : y_CU s A B i' n' so' := by
  subst e1; subst e2; subst e3
  obtain ⟨⟨a0, a1⟩, a2⟩ := h
  exact ⟨⟨by omega, by omega⟩, a2⟩
/-- a sign that is kept, its base has a number; so many numbers then -/
def y_CV (s : z_M) (A B i n so b : Int) : Prop := (0 ≤ i ∧ (i < A ∨ B ≤ i) ∧ n = (if i < A then i else i - (B - A)) ∧ y_sc A B n = i ∧ 0 ≤ n ∧ s 361 i = b) ∧ y_CR s A B n ∧ y_CN s A B n so ∧
  (∀ b' : Int, 0 ≤ b' → b' < 200 → s 7657 b' = -1 ∨ b' = b ∨ ∃ j, 0 ≤ j ∧ j < n ∧ s 361 (y_sc A B j) = b') ∧
  (b = -1 ∨ (0 ≤ s 7657 b ∧ s 7657 b < so ∧ ∀ j : Int, 0 ≤ j → j < n → 0 ≤ s 361 (y_sc A B j) → s 361 (y_sc A B j) < b → s 7657 (s 361 (y_sc A B j)) < s 7657 b))
theorem y_CV.cg {s : z_M} {A B i n so b A' B' i' n' so' b' : Int} (h : y_CV s A B i n so b) (e1 : A' = A) (e2 : B' = B) (e3 : i' = i) (e4 : n' = n) (e5 : so' = so) (e6 : b' = b) : y_CV s A' B' i' n' so' b' := by
  subst e1; subst e2; subst e3; subst e4; subst e5; subst e6; exact h
theorem y_CV.st {s s' : z_M} {A B i n so b : Int} (h : y_CV s A B i n so b) (k : ∀ a b : Int, a = 331 ∨ a = 346 ∨ a = 361 ∨ a = 376 ∨ a = 7657 → s' a b = s a b) (k0 : ∀ b : Int, b < n → s' 344 b = s 344 b) (k1 : ∀ b : Int, b < n → s' 359 b = s 359 b) (k2 : ∀ b : Int, b < n → s' 374 b = s 374 b) (k3 : ∀ b : Int, b < n → s' 389 b = s 389 b) : y_CV s' A B i n so b := by
  obtain ⟨a1, a2, a3, a4, a5⟩ := h
  refine ⟨by rw [k 361 _ (by decide)]; exact a1, a2.st k k0 k1 k2 k3, a3.st (fun a b h => k a b (by omega)), fun b' p q => ?_, ?_⟩
  · rw [k 7657 _ (by decide)]
    rcases a4 b' p q with r | r | ⟨j, r1, r2, r3⟩
    · exact Or.inl r
    · exact Or.inr (Or.inl r)
    · exact Or.inr (Or.inr ⟨j, r1, r2, by rw [k 361 _ (by decide)]; exact r3⟩)
  · rcases a5 with r | ⟨r1, r2, r3⟩
    · exact Or.inl r
    · refine Or.inr ⟨by rw [k 7657 _ (by decide)]; exact r1, by rw [k 7657 _ (by decide)]; exact r2, fun j p q => ?_⟩
      rw [k 361 _ (by decide), k 7657 _ (by decide), k 7657 _ (by decide)]
      exact r3 j p q
theorem y_CV.fr {s s' : z_M} {A B i n so b : Int} (h : y_CV s A B i n so b) (k0 : ∀ b, s' 331 b = s 331 b) (k1 : ∀ b, s' 346 b = s 346 b) (k2 : ∀ b, s' 361 b = s 361 b) (k3 : ∀ b, s' 376 b = s 376 b) (k4 : ∀ b, s' 344 b = s 344 b) (k5 : ∀ b, s' 359 b = s 359 b) (k6 : ∀ b, s' 374 b = s 374 b) (k7 : ∀ b, s' 389 b = s 389 b) (k8 : ∀ b, s' 7657 b = s 7657 b) : y_CV s' A B i n so b :=
  h.st (fun a b h => by rcases h with rfl | rfl | rfl | rfl | rfl; exact k0 b; exact k1 b; exact k2 b; exact k3 b; exact k8 b) (fun b _ => k4 b) (fun b _ => k5 b) (fun b _ => k6 b) (fun b _ => k7 b)
theorem y_CU.pos {s : z_M} {A B i n so : Int} (h : y_CU s A B i n so) (ub : y_UB s A B) (hk : i < A ∨ B ≤ i) : n = (if i < A then i else i - (B - A)) ∧ y_sc A B n = i ∧ 0 ≤ n := by
  obtain ⟨⟨a0, a1⟩, _⟩ := h
  obtain ⟨⟨u0, u1, u2⟩, _⟩ := ub
  have e : n = (if i < A then i else i - (B - A)) := by
    by_cases q : i < A
    · rw [if_pos q]; omega
    · rw [if_neg q]; omega
  refine ⟨e, ?_, ?_⟩
  · unfold y_sc
    by_cases q : i < A
    · rw [if_pos q] at e; rw [if_pos (by omega)]; exact e
    · rw [if_neg q] at e; rw [if_neg (by omega)]; omega
  · by_cases q : i < A
    · rw [if_pos q] at e; omega
    · rw [if_neg q] at e; omega
/-- its base has no number yet -/
theorem y_CU.new {s s' : z_M} {A B i n so b j v so' : Int} (h : y_CU s A B i n so) (wf : y_WF s) (ub : y_UB s A B) (g : ∀ a b : Int, a ≠ 7657 → s' a b = s a b) (g2 : ∀ b : Int, b ≠ j → s' 7657 b = s 7657 b) (e : s' 7657 j = v) (hi : s 361 i = b) (hn : i < s 316 0) (hz : s 7657 b = -1) (hk : i < A ∨ B ≤ i) (hj : j = b) (hv : v = so) (hb : b ≠ -1) (h0 : -1 ≤ b ∧ b < 200) (hso : so' = so + 1) : y_CV s' A B i n so' b := by
  subst hj; subst hv; subst hso
  obtain ⟨p1, p2, p3⟩ := h.pos ub hk
  obtain ⟨⟨a0, a1⟩, a2, ⟨b1, b2, b3⟩, a4⟩ := h
  have ne : ∀ k : Int, 0 ≤ k → k < n → 0 ≤ s 361 (y_sc A B k) → s 361 (y_sc A B k) ≠ j := fun k q1 q2 q3 q4 => by
    have := (b2 k q1 q2 q3).1
    rw [q4, hz] at this
    omega
  have cn : ∀ k : Int, 0 ≤ k → k < n → 0 ≤ s 361 (y_sc A B k) → s' 7657 (s 361 (y_sc A B k)) = s 7657 (s 361 (y_sc A B k)) := fun k q1 q2 q3 => g2 _ (ne k q1 q2 q3)
  have gs : ∀ b, s' 361 b = s 361 b := fun b => g 361 b (by decide)
  refine ⟨⟨a0, hk, p1, p2, p3, by rw [gs]; exact hi⟩, fun k q1 q2 => ?_, ⟨by omega, fun k q1 q2 => ?_, fun i2 k q1 q2 q3 => ?_⟩, fun b' q1 q2 => ?_, Or.inr ⟨by rw [e]; exact b1, by rw [e]; omega, fun k q1 q2 => ?_⟩⟩
  · rw [g 344 _ (by decide), g 359 _ (by decide), g 374 _ (by decide), g 389 _ (by decide), g 331 _ (by decide), g 346 _ (by decide), g 376 _ (by decide), gs]
    obtain ⟨r1, r2, r3, r4⟩ := a2 k q1 q2
    refine ⟨r1, r2, ?_, r4⟩
    rw [r3]
    unfold y_nwb
    by_cases z : s 361 (y_sc A B k) = -1
    · rw [if_pos z, if_pos z]
    · rw [if_neg z, if_neg z]
      refine (g2 _ ?_).symm
      intro z2
      by_cases z3 : 0 ≤ s 361 (y_sc A B k)
      · exact ne k q1 q2 z3 z2
      · omega
  · rw [gs]
    intro q3
    rw [cn k q1 q2 q3]
    have := b2 k q1 q2 q3
    omega
  · rw [gs, gs]
    intro q4 q5
    rw [cn i2 q1 (by omega) q4, cn k (by omega) q3 (by omega)]
    exact b3 i2 k q1 q2 q3 q4 q5
  · by_cases z : b' = j
    · exact Or.inr (Or.inl z)
    · rw [g2 b' z]
      rcases a4 b' q1 q2 with r | ⟨k, r1, r2, r3⟩
      · exact Or.inl r
      · exact Or.inr (Or.inr ⟨k, r1, r2, by rw [gs]; exact r3⟩)
  · rw [gs]
    intro q3 q4
    rw [cn k q1 q2 q3, e]
    exact (b2 k q1 q2 q3).2
/-- its base has one, or it has no base -/
theorem y_CU.old {s : z_M} {A B i n so b : Int} (h : y_CU s A B i n so) (wf : y_WF s) (ub : y_UB s A B) (hi : s 361 i = b) (hn : i < s 316 0) (hk : i < A ∨ B ≤ i) (h0 : -1 ≤ b ∧ b < 200) (hb : b = -1 ∨ s 7657 b ≠ -1) : y_CV s A B i n so b := by
  obtain ⟨p1, p2, p3⟩ := h.pos ub hk
  obtain ⟨⟨a0, a1⟩, a2, ⟨b1, b2, b3⟩, a4⟩ := h
  refine ⟨⟨a0, hk, p1, p2, p3, hi⟩, a2, ⟨b1, b2, b3⟩, fun b' q1 q2 => ?_, ?_⟩
  · rcases a4 b' q1 q2 with r | r
    · exact Or.inl r
    · exact Or.inr (Or.inr r)
  · by_cases z : b = -1
    · exact Or.inl z
    · rcases a4 b (by omega) h0.2 with r | ⟨k, r1, r2, r3⟩
      · rcases hb with hb | hb
        · exact absurd hb z
        · exact absurd r hb
      · have w := b2 k r1 r2 (by omega)
        rw [r3] at w
        refine Or.inr ⟨w.1, w.2, fun j q1 q2 q3 q4 => ?_⟩
        rcases Int.lt_trichotomy j k with z2 | z2 | z2
        · have := b3 j k q1 z2 r2 q3 (by omega)
          rw [r3] at this
          exact this
        · rw [z2] at q4; omega
        · have lt := y_sc_lt (A := A) (B := B) ub.1.2.1 z2
          have lt2 := y_sc_lt (A := A) (B := B) ub.1.2.1 q2
          have bk := y_sc_b (A := A) (B := B) ub.1.2.1 ub.1.1 r1
          have m := wf.mono bk.1 (Int.le_of_lt lt) (by omega) q3
          omega
theorem y_CU.old1 {s : z_M} {A B i n so i' b' n' so' : Int} (h : y_CU s A B i n so) (wf : y_WF s) (ub : y_UB s A B) (hi : s 361 i = b') (hn : i < s 316 0) (hk : i < A ∨ B ≤ i) (hb : b' = -1) (e1 : i' = i) (e3 : n' = n) (e4 : so' = so) : y_CV s A B i' n' so' b' := by
  subst e1; subst e3; subst e4
  exact h.old wf ub hi hn hk (by omega) (Or.inl hb)
theorem y_CU.old2 {s : z_M} {A B i n so i' b' n' so' : Int} (h : y_CU s A B i n so) (wf : y_WF s) (ub : y_UB s A B) (hi : s 361 i = b') (hn : i < s 316 0) (hk : i < A ∨ B ≤ i) (hb : s 7657 b' ≠ -1) (h0 : -1 ≤ b' ∧ b' < 200) (e1 : i' = i) (e3 : n' = n) (e4 : so' = so) : y_CV s A B i' n' so' b' := by
  subst e1; subst e3; subst e4
  exact h.old wf ub hi hn hk h0 (Or.inr hb)
/-- the units' first signs, lengths are as they were -/
def y_FS (r s : z_M) : Prop := (∀ b, s 3221 b = r 3221 b) ∧ ∀ b, s 3222 b = r 3222 b
theorem y_FS.rf {r : z_M} : y_FS r r := ⟨fun _ => rfl, fun _ => rfl⟩
theorem y_FS.fr {r s s' : z_M} (h : y_FS r s) (k : ∀ b, s' 3221 b = s 3221 b) (k2 : ∀ b, s' 3222 b = s 3222 b) : y_FS r s' := ⟨fun b => (k b).trans (h.1 b), fun b => (k2 b).trans (h.2 b)⟩
/-- its row -/
def y_E1 (s : z_M) (n i : Int) : Prop := s 344 n = s 331 i
theorem y_E1.fr {s s' : z_M} {n i : Int} (h : y_E1 s n i) (k : ∀ b, s' 344 b = s 344 b) (k2 : ∀ b, s' 331 b = s 331 b) : y_E1 s' n i := by unfold y_E1; rw [k, k2]; exact h
theorem y_E1.cg {s : z_M} {n i n' i' : Int} (h : y_E1 s n i) (e1 : n' = n) (e2 : i' = i) : y_E1 s n' i' := by subst e1; subst e2; exact h
theorem y_E1.mk {s s' : z_M} {n i v : Int} (e : s' 344 n = v) (e2 : s 331 i = v) (g : ∀ a b : Int, a ≠ 344 → s' a b = s a b) : y_E1 s' n i := by unfold y_E1; rw [g 331 _ (by decide), e, e2]
def y_E2 (s : z_M) (n i : Int) : Prop := s 359 n = s 346 i
theorem y_E2.fr {s s' : z_M} {n i : Int} (h : y_E2 s n i) (k : ∀ b, s' 359 b = s 359 b) (k2 : ∀ b, s' 346 b = s 346 b) : y_E2 s' n i := by unfold y_E2; rw [k, k2]; exact h
theorem y_E2.cg {s : z_M} {n i n' i' : Int} (h : y_E2 s n i) (e1 : n' = n) (e2 : i' = i) : y_E2 s n' i' := by subst e1; subst e2; exact h
theorem y_E2.mk {s s' : z_M} {n i v : Int} (e : s' 359 n = v) (e2 : s 346 i = v) (g : ∀ a b : Int, a ≠ 359 → s' a b = s a b) : y_E2 s' n i := by unfold y_E2; rw [g 346 _ (by decide), e, e2]
def y_E3 (s : z_M) (n b : Int) : Prop := s 374 n = y_nwb s b
theorem y_E3.fr {s s' : z_M} {n b : Int} (h : y_E3 s n b) (k : ∀ b, s' 374 b = s 374 b) (k2 : ∀ b, s' 7657 b = s 7657 b) : y_E3 s' n b := by unfold y_E3 y_nwb; rw [k, k2]; exact h
theorem y_E3.cg {s : z_M} {n i n' i' : Int} (h : y_E3 s n i) (e1 : n' = n) (e2 : i' = i) : y_E3 s n' i' := by subst e1; subst e2; exact h
theorem y_E3.mk {s s' : z_M} {n j b v : Int} (e : s' 374 j = v) (hj : j = n) (hv : v = y_nwb s b) (g : ∀ a b : Int, a ≠ 374 → s' a b = s a b) : y_E3 s' n b := by
  subst hj
  unfold y_E3
  rw [e, hv]
  unfold y_nwb
  rw [g 7657 _ (by decide)]
theorem y_CV.done {s : z_M} {A B i n so b x : Int} (h : y_CV s A B i n so b) (wf : y_WF s) (ub : y_UB s A B) (e1 : y_E1 s n i) (e2 : y_E2 s n i) (e3 : y_E3 s n b) (e4 : s 389 n = x) (e5 : s 376 i = x) : y_CU s A B (i + 1) (n + 1) so := by
  obtain ⟨⟨a0, hk, p1, p2, p3, p4⟩, a2, ⟨b1, b2, b3⟩, a4, a5⟩ := h
  obtain ⟨⟨u0, u1, u2⟩, _⟩ := ub
  refine ⟨⟨by omega, ?_⟩, fun j q1 q2 => ?_, ⟨b1, fun j q1 q2 q3 => ?_, fun k j q1 q2 q3 q4 q5 => ?_⟩, fun b' q1 q2 => ?_⟩
  · by_cases q : i < A
    · rw [if_pos q] at p1; left; omega
    · rw [if_neg q] at p1; right; right; omega
  · by_cases z : j = n
    · subst z
      rw [p2, p4]
      exact ⟨e1, e2, e3, by rw [e4, e5]⟩
    · exact a2 j q1 (by omega)
  · by_cases z : j = n
    · subst z
      rw [p2, p4] at q3 ⊢
      rcases a5 with r | ⟨r1, r2, _⟩
      · omega
      · exact ⟨r1, r2⟩
    · exact b2 j q1 (by omega) q3
  · by_cases z : j = n
    · subst z
      rw [p2, p4] at q5 ⊢
      rcases a5 with r | ⟨_, _, r3⟩
      · omega
      · exact r3 k q1 q2 q4 q5
    · exact b3 k j q1 q2 (by omega) q4 q5
  · rcases a4 b' q1 q2 with r | r | ⟨j, r1, r2, r3⟩
    · exact Or.inl r
    · exact Or.inr ⟨n, p3, by omega, by rw [p2, p4, r]⟩
    · exact Or.inr ⟨j, r1, by omega, r3⟩
/-- units from a to b -/
def y_OKU (r : z_M) (a b : Int) : Prop := 0 ≤ a ∧ a < r 309 20 ∧ 0 ≤ b ∧ b < r 309 20 ∧ a ≤ b
def y_AQ (r : z_M) (a b A B : Int) : Prop := y_OKU r a b ∧ A = r 3221 a ∧ B = r 3221 b + r 3222 b
theorem y_AQ.mk {r s : z_M} {a b A B x y : Int} (e1 : s 3221 a = A) (e2 : s 3221 b = x) (e3 : s 3222 b = y) (eB : B = x + y) (k : ∀ b, s 3221 b = r 3221 b) (k2 : ∀ b, s 3222 b = r 3222 b) (h : 0 ≤ a) (h1 : a < r 309 20) (h2 : 0 ≤ b) (h3 : b < r 309 20) (h4 : a ≤ b) : y_AQ r a b A B :=
  ⟨⟨h, h1, h2, h3, h4⟩, by rw [← e1, k], by rw [eB, ← e2, ← e3, k, k2]⟩
theorem y_AQ.cg {r : z_M} {a b A B a' b' A' B' : Int} (h : y_AQ r a b A B) (e1 : a' = a) (e2 : b' = b) (e3 : A' = A) (e4 : B' = B) : y_AQ r a' b' A' B' := by subst e1; subst e2; subst e3; subst e4; exact h
theorem y_CF.h2 {r s : z_M} (c : y_CF r s 0 13 3 200) : s 329 2 = r 316 2 := c.1 2 (by omega) (by omega)
theorem y_CF.TT {q r s : z_M} (c : y_CF r s 0 13 3 200) (cl : y_CL r s 0 13 200) (t : y_TT q r) : y_TT q s := fun j u v => (t j u v).tr (c.ck cl (by omega) (by omega))
theorem y_CF.WF {r s : z_M} (c : y_CF r s 0 13 3 200) (h : y_WF r) : y_WF s := by
  have q := c.2.2 0 (by omega) (by omega) (by omega)
  have e1 : (316 + 0 : Int) = 316 := by decide
  have e2 : (346 + 0 : Int) = 346 := by decide
  have e3 : (361 + 0 : Int) = 361 := by decide
  rw [e1, e2, e3] at q
  exact h.fr (q 0).1 (fun b => (q b).2.2.1) (fun b => (q b).2.2.2.1)
/-! the new numbers' groups and letters: so bases, the last one's group g, of old group h -/
def y_CQ (s : z_M) (so : Int) (bo : Int → Int) : Prop := 0 ≤ so ∧ ∀ k : Int, 0 ≤ k → k < so → (0 ≤ bo k ∧ bo k < 200) ∧ s 7657 (bo k) = k ∧ (s (3020 + k) 0 = s (407 + bo k) 0 ∧ s (3020 + k) 10 = s (407 + bo k) 10) ∧ ((k = 0 ∧ s 404 k = 0) ∨ (1 ≤ k ∧ ((s 391 (bo k) = s 391 (bo (k - 1)) ∧ s 404 k = s 404 (k - 1)) ∨ (s 391 (bo k) ≠ s 391 (bo (k - 1)) ∧ s 404 k = s 404 (k - 1) + 1))))
def y_CG (s : z_M) (so g h : Int) : Prop := so ≤ 200 ∧ ∃ bo : Int → Int, y_CQ s so bo ∧ ((so = 0 ∧ g = -1 ∧ h = -1) ∨ (1 ≤ so ∧ g = s 404 (so - 1) ∧ h = s 391 (bo (so - 1))))
def y_CGe (s : z_M) (so : Int) : Prop := ∃ g h, y_CG s so g h
def y_CGx (s : z_M) (so g h b : Int) : Prop := y_CG s so g h ∧ s 7657 b = so ∧ 0 ≤ b ∧ b < 200
def y_CH (s : z_M) (so b g h i : Int) : Prop := so ≤ 199 ∧ ∃ bo : Int → Int, y_CQ s so bo ∧ s 7657 b = so ∧ (0 ≤ b ∧ b < 200) ∧ s 404 so = g ∧ h = s 391 b ∧ ((so = 0 ∧ g = 0) ∨ (1 ≤ so ∧ ((s 391 b = s 391 (bo (so - 1)) ∧ g = s 404 (so - 1)) ∨ (s 391 b ≠ s 391 (bo (so - 1)) ∧ g = s 404 (so - 1) + 1)))) ∧ ∀ e : Int, 0 ≤ e → e < i → s (3020 + so) e = s (407 + b) e
theorem y_CG.cg {s : z_M} {so g h so' g' h' : Int} (x : y_CG s so g h) (e1 : so' = so) (e2 : g' = g) (e3 : h' = h) : y_CG s so' g' h' := by subst e1; subst e2; subst e3; exact x
theorem y_CGe.cg {s : z_M} {so so' : Int} (x : y_CGe s so) (e1 : so' = so) : y_CGe s so' := by subst e1; exact x
theorem y_CGe.of {s : z_M} {so g h so' : Int} (x : y_CG s so g h) (e1 : so' = so) : y_CGe s so' := by subst e1; exact ⟨g, h, x⟩
theorem y_CGx.cg {s : z_M} {so g h b so' g' h' b' : Int} (x : y_CGx s so g h b) (e1 : so' = so) (e2 : g' = g) (e3 : h' = h) (e4 : b' = b) : y_CGx s so' g' h' b' := by subst e1; subst e2; subst e3; subst e4; exact x
theorem y_CH.cg {s : z_M} {so b g h i so' b' g' h' i' : Int} (x : y_CH s so b g h i) (e1 : so' = so) (e2 : b' = b) (e3 : g' = g) (e4 : h' = h) (e5 : i' = i) : y_CH s so' b' g' h' i' := by subst e1; subst e2; subst e3; subst e4; subst e5; exact x
theorem y_CG.z {s : z_M} {so g h : Int} (e1 : so = 0) (e2 : g = -1) (e3 : h = -1) : y_CG s so g h := ⟨by omega, fun _ => 0, ⟨by omega, fun k a b => by omega⟩, Or.inl ⟨e1, e2, e3⟩⟩
theorem y_CQ.fr {s s' : z_M} {so : Int} {bo : Int → Int} (x : y_CQ s so bo) (h2 : so ≤ 200) (k1 : ∀ b, s' 391 b = s 391 b) (k2 : ∀ b : Int, b < so → s' 404 b = s 404 b) (k3 : ∀ k : Int, 0 ≤ k → k < so → s' 7657 (bo k) = s 7657 (bo k)) (k4 : ∀ a b : Int, 407 ≤ a ∧ a ≤ 606 → s' a b = s a b) (k5 : ∀ a b : Int, 3020 ≤ a ∧ a < 3020 + so → s' a b = s a b) : y_CQ s' so bo := by
  refine ⟨x.1, fun k a b => ?_⟩
  obtain ⟨w1, w2, w3, w4⟩ := x.2 k a b
  rw [k1, k1, k2 k b, k2 (k - 1) (by omega), k3 k a b, k4 (407 + bo k) 0 (by omega), k4 (407 + bo k) 10 (by omega), k5 (3020 + k) 0 (by omega), k5 (3020 + k) 10 (by omega)]
  exact ⟨w1, w2, w3, w4⟩
theorem y_CG.fr {s s' : z_M} {so g h : Int} (x : y_CG s so g h) (k1 : ∀ b, s' 391 b = s 391 b) (k2 : ∀ b, s' 404 b = s 404 b) (k3 : ∀ b, s' 7657 b = s 7657 b) (k4 : ∀ a b : Int, 407 ≤ a ∧ a ≤ 606 → s' a b = s a b) (k5 : ∀ a b : Int, 3020 ≤ a ∧ a ≤ 3219 → s' a b = s a b) : y_CG s' so g h := by
  obtain ⟨h2, bo, q, o⟩ := x
  refine ⟨h2, bo, q.fr h2 k1 (fun b _ => k2 b) (fun k _ _ => k3 _) k4 (fun a b w => k5 a b (by omega)), ?_⟩
  rw [k2, k1]; exact o
theorem y_CGe.fr {s s' : z_M} {so : Int} (x : y_CGe s so) (k1 : ∀ b, s' 391 b = s 391 b) (k2 : ∀ b, s' 404 b = s 404 b) (k3 : ∀ b, s' 7657 b = s 7657 b) (k4 : ∀ a b : Int, 407 ≤ a ∧ a ≤ 606 → s' a b = s a b) (k5 : ∀ a b : Int, 3020 ≤ a ∧ a ≤ 3219 → s' a b = s a b) : y_CGe s' so := by
  obtain ⟨g, h, x⟩ := x
  exact ⟨g, h, x.fr k1 k2 k3 k4 k5⟩
/-- a base is given the next number -/
theorem y_CGx.mk {s s' : z_M} {so g h b v : Int} (x : y_CG s so g h) (f : ∀ a b : Int, a ≠ 7657 → s' a b = s a b) (f2 : ∀ c : Int, c ≠ b → s' 7657 c = s 7657 c) (e : s' 7657 b = v) (hv : v = so) (z : s 7657 b = -1) (hb : 0 ≤ b ∧ b < 200) : y_CGx s' so g h b := by
  obtain ⟨h2, bo, q, o⟩ := x
  refine ⟨⟨h2, bo, q.fr h2 (fun c => f _ c (by decide)) (fun c _ => f _ c (by decide)) (fun k p r => f2 _ (fun w => ?_)) (fun a c w => f a c (by omega)) (fun a c w => f a c (by omega)), ?_⟩, by rw [e]; exact hv, hb⟩
  · have y := (q.2 k p r).2.1
    rw [w, z] at y
    omega
  · rw [f 404 _ (by decide), f 391 _ (by decide)]; exact o
/-- whether its group is the last one's -/
def y_CGy (s : z_M) (so g t b : Int) : Prop := ∃ h, y_CGx s so g h b ∧ ((t = 0 ∧ s 391 b = h) ∨ (t = 1 ∧ s 391 b ≠ h))
theorem y_CGy.mk {s : z_M} {so g h b t so' g' b' : Int} (x : y_CGx s so g h b) (d : (t = 0 ∧ s 391 b = h) ∨ (t = 1 ∧ s 391 b ≠ h)) (e1 : so' = so) (e2 : g' = g) (e3 : b' = b) : y_CGy s so' g' t b' := by subst e1; subst e2; subst e3; exact ⟨h, x, d⟩
theorem y_CGy.cg {s : z_M} {so g t b so' g' t' b' : Int} (x : y_CGy s so g t b) (e1 : so' = so) (e2 : g' = g) (e3 : t' = t) (e4 : b' = b) : y_CGy s so' g' t' b' := by subst e1; subst e2; subst e3; subst e4; exact x
theorem y_CH.mk {s s' : z_M} {so g b v t h' i j : Int} (x : y_CGy s so g t b) (f : ∀ a b : Int, a ≠ 404 → s' a b = s a b) (f2 : ∀ c : Int, c ≠ j → s' 404 c = s 404 c) (e : s' 404 j = v) (hj : j = so) (hv : v = g + t) (hh : s 391 b = h') (h0 : 0 ≤ h') (hi : i = 0) (hs : so ≤ 199) : y_CH s' so b v h' i := by
  subst hj; subst hi
  obtain ⟨h, ⟨⟨h2, bo, q, o⟩, x1, x2⟩, d⟩ := x
  refine ⟨hs, bo, q.fr h2 (fun c => f _ c (by decide)) (fun c w => f2 c (by omega)) (fun k p r => f _ _ (by decide)) (fun a c w => f a c (by omega)) (fun a c w => f a c (by omega)), by rw [f _ _ (by decide)]; exact x1, x2, e, by rw [f _ _ (by decide)]; exact hh.symm, ?_, fun e a c => by omega⟩
  rw [f 391 _ (by decide), f 391 _ (by decide), f2 (j - 1) (by omega)]
  rcases o with ⟨o1, o2, o3⟩ | ⟨o1, o2, o3⟩
  · refine Or.inl ⟨o1, ?_⟩
    rcases d with ⟨d1, d2⟩ | ⟨d1, d2⟩
    · omega
    · omega
  · refine Or.inr ⟨o1, ?_⟩
    rcases d with ⟨d1, d2⟩ | ⟨d1, d2⟩
    · exact Or.inl ⟨by rw [d2, o3], by omega⟩
    · exact Or.inr ⟨fun z => d2 (by rw [z, o3]), by omega⟩
/-- its letters -/
theorem y_CH.st {s s' : z_M} {so b g h i v i' : Int} (x : y_CH s so b g h i) (f : ∀ a c : Int, a ≠ 3020 + so → s' a c = s a c) (f2 : ∀ c : Int, c ≠ i → s' (3020 + so) c = s (3020 + so) c) (e : s' (3020 + so) i = v) (e2 : s (407 + b) i = v) (hi : i' = i + 1) : y_CH s' so b g h i' := by
  subst hi
  obtain ⟨h2, bo, q, x1, x2, x3, x4, x5, x6⟩ := x
  have q0 := q.1
  refine ⟨h2, bo, q.fr (by omega) (fun c => f _ c (by omega)) (fun c w => f _ c (by omega)) (fun k p r => f _ _ (by omega)) (fun a c w => f a c (by omega)) (fun a c w => f a c (by omega)), by rw [f _ _ (by omega)]; exact x1, x2, by rw [f _ _ (by omega)]; exact x3, by rw [f _ _ (by omega)]; exact x4, ?_, fun c y z => ?_⟩
  · rw [f 391 _ (by omega), f 391 _ (by omega), f 404 _ (by omega)]; exact x5
  · rw [f (407 + b) _ (by omega)]
    by_cases w : c = i
    · rw [w, e, e2]
    · rw [f2 c w]; exact x6 c y (by omega)
theorem y_CH.end {s : z_M} {so b g h i so' g' h' : Int} (x : y_CH s so b g h i) (hi : 20 ≤ i) (e1 : so' = so + 1) (e2 : g' = g) (e3 : h' = h) : y_CG s so' g' h' := by
  subst e1; subst e2; subst e3
  obtain ⟨h2, bo, q, x1, x2, x3, x4, x5, x6⟩ := x
  have q0 := q.1
  have eo : ∀ k : Int, k ≠ so → (fun k => if k = so then b else bo k) k = bo k := fun k w => if_neg w
  have es : (fun k => if k = so then b else bo k) so = b := if_pos rfl
  refine ⟨by omega, fun k => if k = so then b else bo k, ⟨by omega, fun k p r => ?_⟩, Or.inr ⟨by omega, ?_, ?_⟩⟩
  · by_cases w : k = so
    · rw [w, es]
      refine ⟨x2, x1, ⟨x6 0 (by decide) (by omega), x6 10 (by decide) (by omega)⟩, ?_⟩
      rcases x5 with ⟨y1, y2⟩ | ⟨y1, y2⟩
      · exact Or.inl ⟨y1, by rw [x3]; exact y2⟩
      · refine Or.inr ⟨y1, ?_⟩
        rw [eo (so - 1) (by omega), x3]
        exact y2
    · obtain ⟨w1, w2, w3, w4⟩ := q.2 k p (by omega)
      rw [eo k w, eo (k - 1) (by omega)]
      exact ⟨w1, w2, w3, w4⟩
  · rw [show so + 1 - 1 = so by omega]; exact x3.symm
  · rw [show so + 1 - 1 = so by omega, es]; exact x4
/-- units from a to b are cut -/
def y_CC (r s : z_M) (a b : Int) : Prop := ∃ s1 n so, y_CU s1 (r 3221 a) (r 3221 b + r 3222 b) (r 316 0) n so ∧ y_UB s1 (r 3221 a) (r 3221 b + r 3222 b) ∧ y_RS2 r s1 0 0 ∧ y_RS2 s1 s 0 13 ∧ s1 329 0 = n ∧ s1 329 1 = so ∧ s1 329 2 = r 316 2 ∧ y_SK r s ∧ y_CGe s1 so
theorem y_CC.mk {r s s' : z_M} {a b A B m n so : Int} (h : y_CU s A B m n so) (ub : y_UB s A B) (q : y_AQ r a b A B) (t : y_TT r s) (st : y_ST s s') (hm : m = s 316 0) (e0 : s 329 0 = n) (e1 : s 329 1 = so) (e2 : s 329 2 = r 316 2) (e : s 309 19 = r 309 19) (cg : y_CGe s so) : y_CC r s' a b := by
  obtain ⟨_, rfl, rfl⟩ := q
  have z0 := t 0 (by omega) (by omega)
  have w0 : s 316 0 = r 316 0 := z0.1
  rw [hm, w0] at h
  exact ⟨s, n, so, h, ub, z0, st.1, e0, e1, e2, y_SK.mk t st e, cg⟩
def y_CCP (r s : z_M) (a b x : Int) : Prop := (y_OKU r a b → y_CC r s a b ∧ x = s 309 20) ∧ (¬ y_OKU r a b → y_TT r s ∧ s 309 19 = r 309 19)
theorem y_CCP.y {r s : z_M} {a b A B x : Int} (h : y_CC r s a b) (q : y_AQ r a b A B) (e : x = s 309 20) : y_CCP r s a b x := ⟨fun _ => ⟨h, e⟩, fun z => absurd q.1 z⟩
theorem y_CCP.no {r s : z_M} {a b x : Int} (t : y_TT r s) (h : a < 0 ∨ r 309 20 ≤ a ∨ b < 0 ∨ r 309 20 ≤ b ∨ b < a) (e : s 309 19 = r 309 19) : y_CCP r s a b x := ⟨fun z => by unfold y_OKU at z; omega, fun _ => ⟨t, e⟩⟩
def y_CW (s : z_M) (A B i n so v : Int) : Prop := ∃ b, y_CV s A B i n so b ∧ v = y_nwb s b
theorem y_CW.mk {s : z_M} {A B i n so b v : Int} (h : y_CV s A B i n so b) (e : v = y_nwb s b) : y_CW s A B i n so v := ⟨b, h, e⟩
def y_C3 (s : z_M) (A B i n so : Int) : Prop := ∃ b, y_CV s A B i n so b ∧ y_E3 s n b
theorem y_CW.st {s s' : z_M} {A B i n so v j v' : Int} (h : y_CW s A B i n so v) (g : ∀ a b : Int, a ≠ 374 → s' a b = s a b) (g2 : ∀ b : Int, b ≠ j → s' 374 b = s 374 b) (e : s' 374 j = v') (hj : j = n) (hv : v' = v) : y_C3 s' A B i n so := by
  obtain ⟨b, h, q⟩ := h
  subst hj
  exact ⟨b, h.st (fun a b h => g a b (by omega)) (fun b h => g 344 b (by decide)) (fun b h => g 359 b (by decide)) (fun b h => g2 b (by omega)) (fun b h => g 389 b (by decide)), y_E3.mk e rfl (by rw [hv, q]) g⟩
theorem y_C3.done {s s' : z_M} {A B i n so j x : Int} (h : y_C3 s A B i n so) (g : ∀ a b : Int, a ≠ 389 → s' a b = s a b) (g2 : ∀ b : Int, b ≠ j → s' 389 b = s 389 b) (wf : y_WF s') (ub : y_UB s' A B) (e1 : y_E1 s' n i) (e2 : y_E2 s' n i) (e4 : s' 389 j = x) (e5 : s' 376 i = x) (hj : j = n) : y_CU s' A B (i + 1) (n + 1) so := by
  subst hj
  obtain ⟨b, h, q⟩ := h
  refine (h.st (fun a b h => g a b (by omega)) (fun b h => g 344 b (by decide)) (fun b h => g 359 b (by decide)) (fun b h => g 374 b (by decide)) (fun b h => g2 b (by omega))).done wf ub e1 e2 (q.fr (fun b => g 374 b (by decide)) (fun b => g 7657 b (by decide))) e4 e5
