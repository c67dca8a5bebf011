/-! READING: both sides end alike -/
theorem y_gi_cg {b b' : Int → Int} {g : z_M} : ∀ m : Nat, (∀ i : Nat, i < m → b i = b' i) → y_gi b g m = y_gi b' g m := by
  intro m
  induction m with
  | zero => intro _; rfl
  | succ m ih =>
    intro h
    show z_up (y_st (y_gi b g m) (b m)).2 32 7 _ = z_up (y_st (y_gi b' g m) (b' m)).2 32 7 _
    rw [ih (fun i hi => h i (by omega)), h m (by omega)]
theorem y_W.gi {b : Int → Int} {g g' : z_M} {p : Int} (h : y_W b 0 g p g') : ∃ m : Nat, p = m ∧ g' = y_gi b g m ∧ y_go b g m := by
  obtain ⟨m, e1, e2, e3⟩ := h
  refine ⟨m, by omega, by rw [e2, y_gw_gi], fun i hi => ?_⟩
  have q := e3 i hi
  rw [y_gw_gi, show (0 : Int) + (i : Int) = i by omega] at q
  exact q
theorem y_rd_oc {b : Int → Int} {g r s s' : z_M} {n x : Int} {v : z_V} (hb : ∀ i : Int, 0 ≤ i → i < n → b i = r 311 i) (hg : g 32 7 = 0) (h : y_rd b g n v s') (o : y_OC r s n x g) :
    (v = vI (x + 10) ∧ x + 10 ≠ 0 ∧ s' 32 7 = s 309 5 ∧ y_TT r s ∧ s 309 19 = r 309 19) ∨ (v = vI 0 ∧ s 309 5 = -1 ∧ s' 19 7 ≤ s' 19 6 ∧ y_TX s' 19 s 0 (s 316 1) ∧ y_XT s' 19 s 0 ∧ x = s 309 20 ∧ y_SK r s) := by
  obtain ⟨m, h1, h2, h3⟩ := h
  have bm : ∀ k : Nat, (k : Int) ≤ n → y_gi (fun i => r 311 i) g k = y_gi b g k := fun k hk => y_gi_cg k (fun i hi => (hb i (by omega) (by omega)).symm)
  have gom : ∀ k : Nat, (k : Int) ≤ n → y_go (fun i => r 311 i) g k → y_go b g k := fun k hk q i hi => by
    have := q i hi
    rw [bm i (by omega)] at this
    rw [hb i (by omega) (by omega)]; exact this
  rcases o with ⟨g', w, x0, q, tt, e19⟩ | ⟨g', w, st, gc, tx, xt, e5, ex, sk⟩
  · obtain ⟨p, e1, e2, e3⟩ := w.gi
    have hp : (p : Int) ≤ n := by rcases q with q | q <;> omega
    have e3' := gom p hp e3
    rw [bm p hp] at e2
    subst e2
    left
    rcases q with ⟨q1, q2⟩ | ⟨q1, q2, q3⟩
    · have hbp : b p = r 311 p := hb p (by omega) (by omega)
      rw [e1, ← hbp] at q2
      have mp : m = p := by
        rcases Nat.lt_trichotomy m p with z | z | z
        · rcases h3 with ⟨z1, _⟩ | ⟨_, z2, _⟩
          · omega
          · exact absurd (e3' m z) z2
        · exact z
        · exact absurd ((h2 p z).symm.trans q2).symm x0
      subst mp
      rcases h3 with ⟨z1, _⟩ | ⟨_, z2, z3, z4⟩
      · omega
      · rw [q2] at z3
        refine ⟨z3, x0, ?_, tt, e19⟩
        rw [z4, y_st_f (by decide), y_gi_7 hg, e1]
    · have mp : m = p := by
        rcases Nat.lt_trichotomy m p with z | z | z
        · rcases h3 with ⟨z1, _⟩ | ⟨_, z2, _⟩
          · omega
          · exact absurd (e3' m z) z2
        · exact z
        · omega
      subst mp
      rcases h3 with ⟨z1, z2, z3⟩ | ⟨z1, _⟩
      · rw [if_neg q2] at z2
        refine ⟨by rw [q3]; exact z2, x0, ?_, tt, e19⟩
        rw [z3, y_gi_7 hg, e1]
      · omega
  · obtain ⟨p, e1, e2, e3⟩ := w.gi
    have e3' := gom p (by omega) e3
    rw [bm p (by omega)] at e2
    subst e2
    right
    have mp : m = p := by
      rcases Nat.lt_trichotomy m p with z | z | z
      · rcases h3 with ⟨z1, _⟩ | ⟨_, z2, _⟩
        · omega
        · exact absurd (e3' m z) z2
      · exact z
      · omega
    subst mp
    rcases h3 with ⟨z1, z2, z3⟩ | ⟨z1, _⟩
    · rw [if_pos st] at z2
      subst z3
      exact ⟨z2, e5, gc, tx, xt, ex, sk⟩
    · omega
