/-! what the reference has kept stays right, where its units are what they should be -/
def y_OKm (s : z_M) : Prop := y_Rw s ∧ y_DF (y_dm s) (s 309 20) ∧ (0 ≤ s 312 7 ∧ s 312 7 ≤ 1000) ∧ 0 ≤ s 312 2 ∧ s 312 2 ≤ 6
def y_KM (s : z_M) : Prop := y_OKm s → (s 309 36 = 0 ∨ y_KF (y_dm s) s)
theorem y_OKm.MU {s : z_M} (h : y_OKm s) : y_MU2 (y_dm s) s := by
  refine ⟨h.1, y_dm5.symm, fun u h0 h1 => ⟨(y_dm0 ⟨h0, h1⟩).symm, (y_dm1 ⟨h0, h1⟩).symm, fun k => ?_⟩, h.2.1⟩
  rw [y_dm0 ⟨h0, h1⟩] at k
  have e := y_dm7 ⟨h0, h1⟩ k
  exact ⟨e.1.symm, e.2.1.symm, e.2.2.symm⟩
/-- cells that units are told by -/
abbrev y_uc (a : Int) : Prop := a = 331 ∨ a = 346 ∨ a = 361 ∨ a = 391 ∨ (407 ≤ a ∧ a ≤ 606) ∨ (3220 ≤ a ∧ a ≤ 3223)
theorem y_dm.fr {s s' : z_M} (r : y_Rw s) (e : s' 309 20 = s 309 20) (f : ∀ a b : Int, y_uc a → s' a b = s a b) (g : s' 312 1 = s 312 1 ∧ s' 312 5 = s 312 5 ∧ s' 312 6 = s 312 6) : y_dm s' = y_dm s := by
  have am : y_am s' = y_am s := funext fun u => by
    unfold y_am; rw [f 3220 u (by omega), g.2.1, f 3222 u (by omega), g.1]
  have lm : y_lm s' = y_lm s := funext fun i => by
    unfold y_lm; rw [f 346 i (by omega), f 331 i (by omega), am, f 3223 i (by omega)]
  refine funext fun a => funext fun v => ?_
  unfold y_dm
  rw [g.2.2, e]
  by_cases q5 : a = 5
  · rw [if_pos q5, if_pos q5]
  · rw [if_neg q5, if_neg q5]
    by_cases h : 0 ≤ v ∧ v < s 309 20
    · have w : y_wm s' v = y_wm s v := by
        unfold y_wm; rw [am, lm, f 3221 v (by omega), f 3222 v (by omega)]
      rw [if_pos h, if_pos h, f 3220 v (by omega), w]
      by_cases k7 : s 3220 v = 7
      · have b := r.2.2.2 v h.1 h.2 k7
        have eg : y_gm s' v = y_gm s v := by
          unfold y_gm; rw [f 3220 v (by omega), f 3221 v (by omega), f 361 _ (by omega), f 391 _ (by omega)]
        have el : ∀ d, y_rl s' v d = y_rl s v d := fun d => by
          unfold y_rl; rw [f 3221 v (by omega), f 361 _ (by omega), f _ (10 * d) (by omega)]
        rw [if_pos k7, if_pos k7, eg, el, el]
      · rw [if_neg k7, if_neg k7]
    · rw [if_neg h, if_neg h]
theorem y_Rw.fr {s s' : z_M} (r : y_Rw s) (e : s' 309 20 = s 309 20) (f : ∀ a b : Int, y_uc a → s' a b = s a b) : y_Rw s' := by
  obtain ⟨r1, r2, r3, r4⟩ := r
  refine ⟨by rw [e]; exact r1, fun u p q => ?_, fun j => ?_, fun u p q k => ?_⟩
  · rw [f 3221 u (by omega), f 3222 u (by omega)]; exact r2 u p (by omega)
  · rw [f 3223 j (by omega)]; exact r3 j
  · rw [f 3221 u (by omega), f 361 _ (by omega)]
    rw [f 3220 u (by omega)] at k
    exact r4 u p (by omega) k
theorem y_OKm.fr {s s' : z_M} (h : y_OKm s) (e : s' 309 20 = s 309 20) (f : ∀ a b : Int, y_uc a → s' a b = s a b) (g : ∀ j : Int, s' 312 j = s 312 j) : y_OKm s' ∧ y_dm s' = y_dm s := by
  have d := y_dm.fr h.1 e f ⟨g 1, g 5, g 6⟩
  exact ⟨⟨h.1.fr e f, by rw [d, e]; exact h.2.1, by rw [g 7]; exact h.2.2.1, by rw [g 2]; exact h.2.2.2⟩, d⟩
theorem y_KM.z {s : z_M} (h : s 309 36 = 0) : y_KM s := fun _ => Or.inl h
/-- the relation over a step -/
theorem y_KM.fr {s s' : z_M} (h : y_KM s) (e20 : s' 309 20 = s 309 20) (e36 : s' 309 36 = s 309 36) (e38 : s' 309 38 = s 309 38) (e39 : s' 309 39 = s 309 39) (g : ∀ b, s' 312 b = s 312 b) (c1 : ∀ b, s' 331 b = s 331 b) (c2 : ∀ b, s' 346 b = s 346 b) (c3 : ∀ b, s' 361 b = s 361 b) (c4 : ∀ b, s' 391 b = s 391 b) (c5 : ∀ a b : Int, 407 ≤ a ∧ a ≤ 606 → s' a b = s a b) (c6 : ∀ a b : Int, 3220 ≤ a ∧ a ≤ 3223 → s' a b = s a b) (c7 : ∀ a b : Int, 3235 ≤ a ∧ a ≤ 3437 → s' a b = s a b) : y_KM s' := fun o => by
  have f : ∀ a b : Int, y_uc a → s' a b = s a b := fun a b q => by
    rcases q with rfl | rfl | rfl | rfl | q | q
    · exact c1 b
    · exact c2 b
    · exact c3 b
    · exact c4 b
    · exact c5 a b q
    · exact c6 a b q
  have back := o.fr (s' := s) e20.symm (fun a b q => (f a b q).symm) (fun j => (g j).symm)
  rcases h back.1 with w | w
  · exact Or.inl (e36.trans w)
  · right
    rw [← back.2]
    exact w.fr back.1.1.1.2 e20 (g 2) (g 7) (fun x b q => c7 x b (by omega)) (fun b => ⟨c7 _ _ (by omega), c7 _ _ (by omega)⟩) e38 e39
theorem km_freshens {fu : Nat} (hfu : 8589934592 ≤ fu) {s : z_M} (h : y_KM s) (E : z_T (fX12_freshens fu s 309) (fun _ s' => ∀ x b : Int, ¬ y_fw x b → s' x b = s x b)) : z_T (fX12_freshens fu s 309) (fun _ s' => y_KM s') := by
  by_cases o : y_OKm s
  · refine T_mono (em_freshens hfu o.MU o.2.2.1 (h o)) (fun v s' hq => ?_)
    obtain ⟨_, _, kf, _, _, f⟩ := hq
    intro o'
    have d := (o.fr (s' := s') (f _ _ (by omega)) (fun a b q => f a b (by omega)) (fun j => f _ _ (by omega))).2
    rw [d]
    exact Or.inr kf
  · refine T_mono E (fun v s' f => ?_)
    intro o'
    exact absurd (o'.fr (s' := s) (f _ _ (by omega)).symm (fun a b q => (f a b (by omega)).symm) (fun j => (f _ _ (by omega)).symm)).1 o
theorem km_longAs {fu : Nat} (hfu : 8589934592 ≤ fu) {s : z_M} (h : y_KM s) {a b : Int} (ha : 0 ≤ a ∧ a ≤ b) (hb : b < s 309 20) (E : z_T (fX12_longAs fu s 309 a b) (fun _ s' => ∀ x y : Int, ¬ y_fw x y → ¬ (3224 ≤ x ∧ x ≤ 3234) → ¬ (x = 309 ∧ y = 35) → s' x y = s x y)) : z_T (fX12_longAs fu s 309 a b) (fun _ s' => y_KM s') := by
  by_cases o : y_OKm s
  · refine T_mono (em_longAs hfu o.MU o.2.2.1 o.2.2.2 (h o) ha hb) (fun v s' hq => ?_)
    obtain ⟨_, _, kf, _, _, f⟩ := hq
    intro o'
    have d := (o.fr (s' := s') (f _ _ (by omega) (by omega) (by omega)) (fun a b q => f a b (by omega) (by omega) (by omega)) (fun j => f _ _ (by omega) (by omega) (by omega))).2
    rw [d]
    exact Or.inr kf
  · refine T_mono E (fun v s' f => ?_)
    intro o'
    exact absurd (o'.fr (s' := s) (f _ _ (by omega) (by omega) (by omega)).symm (fun a b q => (f a b (by omega) (by omega) (by omega)).symm) (fun j => (f _ _ (by omega) (by omega) (by omega)).symm)).1 o
