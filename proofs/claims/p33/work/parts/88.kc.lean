/-! what the class has kept of LONG stays right, where its units are what they should be -/
def y_OKc (s : z_M) : Prop := y_U2 s ∧ y_TOK s ∧ y_DF (y_dc s) (s 191 16) ∧ (0 ≤ s 191 16 ∧ s 191 16 ≤ 200) ∧ (0 ≤ s 3 2 ∧ s 3 2 ≤ 6) ∧ (12 ≤ s 3 0 ∧ s 3 0 ≤ 999) ∧ ∀ x : Int, 0 ≤ x → x < s 191 16 → s 193 x = 4 → 1 ≤ s 199 x
def y_KC (s : z_M) : Prop := y_OKc s → y_KN (y_dc s) s
def y_U3 (s : z_M) : Prop := y_U2 s ∧ y_KC s
theorem y_OKc.CU {s : z_M} (h : y_OKc s) : y_CU2 (y_dc s) s := h.1.CU h.2.1 h.2.2.2.1 h.2.2.1
theorem y_OKc.CM {s : z_M} (h : y_OKc s) (kn : y_KN (y_dc s) s) : y_CM (y_dc s) (y_me (y_dc s) (s 3 7) (s 191 16)) s s := by
  have cu := h.CU
  obtain ⟨u, t, d, n, l, _, w⟩ := h
  refine ⟨cu, kn, l, fun v h0 h1 => u.me t n d w h0 h1, fun v h0 h1 => ?_, fun _ _ _ _ => rfl⟩
  rw [((u.2.2 t).2.1 v h0 h1).2]
  refine y_sum_cg _ (fun i a q => ?_)
  have ci := cu.2.2.1 i a (by omega)
  unfold y_fl y_sol
  rw [ci.1, ci.2.1]
abbrev y_r5 (x : Int) : Prop := x = 193 ∨ x = 199 ∨ x = 201 ∨ x = 203 ∨ x = 205
theorem y_f5 {s s' : z_M} (a : ∀ b, s' 193 b = s 193 b) (c : ∀ b, s' 199 b = s 199 b) (d : ∀ b, s' 201 b = s 201 b) (e : ∀ b, s' 203 b = s 203 b) (f : ∀ b, s' 205 b = s 205 b) : ∀ x b : Int, y_r5 x → s' x b = s x b := fun x b q => by
  rcases q with rfl | rfl | rfl | rfl | rfl
  · exact a b
  · exact c b
  · exact d b
  · exact e b
  · exact f b
theorem y_dc.fr {s s' : z_M} (e : s' 191 16 = s 191 16) (e6 : s' 3 6 = s 3 6) (f : ∀ x b : Int, y_r5 x → s' x b = s x b) : y_dc s' = y_dc s := funext fun a => funext fun b => by
  unfold y_dc
  rw [e, e6, f 193 b (Or.inl rfl), f 199 b (Or.inr (Or.inl rfl)), f 201 b (Or.inr (Or.inr (Or.inl rfl))), f 203 b (Or.inr (Or.inr (Or.inr (Or.inl rfl)))), f 205 b (Or.inr (Or.inr (Or.inr (Or.inr rfl))))]
theorem y_OKc.fr {s s' : z_M} (h : y_OKc s) (u : y_U2 s') (e0 : s' 191 16 = s 191 16) (e1 : s' 6 6 = s 6 6) (e4 : s' 3 2 = s 3 2 ∧ s' 3 6 = s 3 6) (l : 12 ≤ s' 3 0 ∧ s' 3 0 ≤ 999) (e5 : ∀ b, s' 8 b = s 8 b) (e6 : ∀ b, s' 12 b = s 12 b) (e7 : ∀ b, s' 14 b = s 14 b) (f : ∀ x b : Int, y_r5 x → s' x b = s x b) : y_OKc s' := by
  obtain ⟨_, t, d, n, k, _, w⟩ := h
  refine ⟨u, (y_TOK.eq e1 e5 e6 e7).mpr t, ?_, by rw [e0]; exact n, by rw [e4.1]; exact k, l, fun x p q z => ?_⟩
  · rw [y_dc.fr e0 e4.2 f, e0]; exact d
  · rw [f 199 x (Or.inr (Or.inl rfl))]
    rw [f 193 x (Or.inl rfl)] at z
    exact w x p (by omega) z
theorem y_KC.fr {s s' : z_M} (h : y_KC s) (e0 : s' 191 16 = s 191 16) (e1 : s' 6 6 = s 6 6) (e2 : s' 191 17 = s 191 17) (e3 : s' 191 18 = s 191 18) (e4 : ∀ b, s' 3 b = s 3 b) (e5 : ∀ b, s' 8 b = s 8 b) (e6 : ∀ b, s' 12 b = s 12 b) (e7 : ∀ b, s' 14 b = s 14 b) (e8 : ∀ b, s' 16 b = s 16 b) (e9 : ∀ b, s' 18 b = s 18 b) (e10 : ∀ b, s' 193 b = s 193 b) (e11 : ∀ b, s' 195 b = s 195 b) (e12 : ∀ b, s' 197 b = s 197 b) (e13 : ∀ b, s' 199 b = s 199 b) (e14 : ∀ b, s' 201 b = s 201 b) (e15 : ∀ b, s' 203 b = s 203 b) (e16 : ∀ b, s' 205 b = s 205 b) (e17 : ∀ b, s' 207 b = s 207 b) (e18 : ∀ b, s' 209 b = s 209 b) (e19 : ∀ b, s' 211 b = s 211 b) (e20 : ∀ b, s' 213 b = s 213 b) (e21 : ∀ b, s' 215 b = s 215 b) (e22 : ∀ b, s' 217 b = s 217 b) (e23 : ∀ b, s' 219 b = s 219 b) (e24 : ∀ b, s' 222 b = s 222 b) : y_KC s' := fun ok => by
  have f := (y_f5 e10 e13 e14 e15 e16)
  have back : y_OKc s := ok.fr (ok.1.fr e0.symm e1.symm e2.symm e3.symm (fun b => (e4 b).symm) (fun b => (e5 b).symm) (fun b => (e6 b).symm) (fun b => (e7 b).symm) (fun b => (e8 b).symm) (fun b => (e9 b).symm) (fun b => (e10 b).symm) (fun b => (e11 b).symm) (fun b => (e12 b).symm) (fun b => (e13 b).symm) (fun b => (e14 b).symm) (fun b => (e15 b).symm) (fun b => (e16 b).symm) (fun b => (e17 b).symm) (fun b => (e18 b).symm) (fun b => (e19 b).symm) (fun b => (e20 b).symm) (fun b => (e21 b).symm) (fun b => (e22 b).symm) (fun b => (e23 b).symm)) e0.symm e1.symm ⟨(e4 2).symm, (e4 6).symm⟩ (by rw [← e4 0]; exact ok.2.2.2.2.2.1) (fun b => (e5 b).symm) (fun b => (e6 b).symm) (fun b => (e7 b).symm) (fun x b q => (f x b q).symm)
  rw [y_dc.fr e0 (e4 6) f]
  exact (h back).fr e0 (e4 2) e24
theorem y_U3.fr {s s' : z_M} (h : y_U3 s) (e0 : s' 191 16 = s 191 16) (e1 : s' 6 6 = s 6 6) (e2 : s' 191 17 = s 191 17) (e3 : s' 191 18 = s 191 18) (e4 : ∀ b, s' 3 b = s 3 b) (e5 : ∀ b, s' 8 b = s 8 b) (e6 : ∀ b, s' 12 b = s 12 b) (e7 : ∀ b, s' 14 b = s 14 b) (e8 : ∀ b, s' 16 b = s 16 b) (e9 : ∀ b, s' 18 b = s 18 b) (e10 : ∀ b, s' 193 b = s 193 b) (e11 : ∀ b, s' 195 b = s 195 b) (e12 : ∀ b, s' 197 b = s 197 b) (e13 : ∀ b, s' 199 b = s 199 b) (e14 : ∀ b, s' 201 b = s 201 b) (e15 : ∀ b, s' 203 b = s 203 b) (e16 : ∀ b, s' 205 b = s 205 b) (e17 : ∀ b, s' 207 b = s 207 b) (e18 : ∀ b, s' 209 b = s 209 b) (e19 : ∀ b, s' 211 b = s 211 b) (e20 : ∀ b, s' 213 b = s 213 b) (e21 : ∀ b, s' 215 b = s 215 b) (e22 : ∀ b, s' 217 b = s 217 b) (e23 : ∀ b, s' 219 b = s 219 b) (e24 : ∀ b, s' 222 b = s 222 b) : y_U3 s' := ⟨h.1.fr e0 e1 e2 e3 e4 e5 e6 e7 e8 e9 e10 e11 e12 e13 e14 e15 e16 e17 e18 e19 e20 e21 e22 e23, h.2.fr e0 e1 e2 e3 e4 e5 e6 e7 e8 e9 e10 e11 e12 e13 e14 e15 e16 e17 e18 e19 e20 e21 e22 e23 e24⟩
theorem y_U2.lo {s s' : z_M} (h : y_U2 s) (f : ∀ x b : Int, x ≤ 219 → s' x b = s x b) : y_U2 s' := h.fr (f _ _ (by decide)) (f _ _ (by decide)) (f _ _ (by decide)) (f _ _ (by decide)) (fun b => f _ b (by decide)) (fun b => f _ b (by decide)) (fun b => f _ b (by decide)) (fun b => f _ b (by decide)) (fun b => f _ b (by decide)) (fun b => f _ b (by decide)) (fun b => f _ b (by decide)) (fun b => f _ b (by decide)) (fun b => f _ b (by decide)) (fun b => f _ b (by decide)) (fun b => f _ b (by decide)) (fun b => f _ b (by decide)) (fun b => f _ b (by decide)) (fun b => f _ b (by decide)) (fun b => f _ b (by decide)) (fun b => f _ b (by decide)) (fun b => f _ b (by decide)) (fun b => f _ b (by decide)) (fun b => f _ b (by decide)) (fun b => f _ b (by decide))
theorem y_U3.of {s s' : z_M} (h : y_U3 s) (f : ∀ x b : Int, x ≤ 219 → s' x b = s x b) (k : y_OKc s → y_KN (y_dc s) s') : y_U3 s' := by
  refine ⟨h.1.lo f, fun ok => ?_⟩
  have f5 : ∀ x b : Int, y_r5 x → s' x b = s x b := fun x b q => f x b (by omega)
  rw [y_dc.fr (f _ _ (by decide)) (f _ _ (by decide)) f5]
  exact k (ok.fr h.1 (f _ _ (by decide)).symm (f _ _ (by decide)).symm ⟨(f _ _ (by decide)).symm, (f _ _ (by decide)).symm⟩ (by rw [← f 3 0 (by decide)]; exact ok.2.2.2.2.2.1) (fun b => (f _ b (by decide)).symm) (fun b => (f _ b (by decide)).symm) (fun b => (f _ b (by decide)).symm) (fun x b q => (f5 x b q).symm))
theorem y_OKc.lo {s s' : z_M} (h : y_OKc s) (f : ∀ x b : Int, x ≤ 219 → s' x b = s x b) : y_OKc s' :=
  h.fr (h.1.lo f) (f _ _ (by decide)) (f _ _ (by decide)) ⟨f _ _ (by decide), f _ _ (by decide)⟩ (by rw [f 3 0 (by decide)]; exact h.2.2.2.2.2.1) (fun b => f _ b (by decide)) (fun b => f _ b (by decide)) (fun b => f _ b (by decide)) (fun x b q => f x b (by omega))
theorem y_KC.st {s s' : z_M} (h : y_KC s) (len : 12 ≤ s 3 0 ∧ s 3 0 ≤ 999) (f : ∀ x b : Int, x ≠ 1 → x ≠ 3 → s' x b = s x b) (j : s' 3 1 = s 3 1 ∧ s' 3 2 = s 3 2 ∧ s' 3 5 = s 3 5 ∧ s' 3 6 = s 3 6 ∧ s' 3 7 = s 3 7) : y_KC s' := fun ok => by
  have u : y_U2 s := ok.1.ff (f 191 16 (by omega) (by omega)).symm (f 6 6 (by omega) (by omega)).symm (f 191 17 (by omega) (by omega)).symm (f 191 18 (by omega) (by omega)).symm j.1.symm j.2.2.1.symm j.2.2.2.2.symm (fun b => (f 8 b (by omega) (by omega)).symm) (fun b => (f 12 b (by omega) (by omega)).symm) (fun b => (f 14 b (by omega) (by omega)).symm) (fun b => (f 16 b (by omega) (by omega)).symm) (fun b => (f 18 b (by omega) (by omega)).symm) (fun b => (f 193 b (by omega) (by omega)).symm) (fun b => (f 195 b (by omega) (by omega)).symm) (fun b => (f 197 b (by omega) (by omega)).symm) (fun b => (f 199 b (by omega) (by omega)).symm) (fun b => (f 201 b (by omega) (by omega)).symm) (fun b => (f 203 b (by omega) (by omega)).symm) (fun b => (f 205 b (by omega) (by omega)).symm) (fun b => (f 207 b (by omega) (by omega)).symm) (fun b => (f 209 b (by omega) (by omega)).symm) (fun b => (f 211 b (by omega) (by omega)).symm) (fun b => (f 213 b (by omega) (by omega)).symm) (fun b => (f 215 b (by omega) (by omega)).symm) (fun b => (f 217 b (by omega) (by omega)).symm) (fun b => (f 219 b (by omega) (by omega)).symm)
  have e0 := f 191 16 (by omega) (by omega)
  have f5 : ∀ x b : Int, y_r5 x → s' x b = s x b := fun x b q => f x b (by omega) (by omega)
  have back : y_OKc s := ok.fr u e0.symm (f 6 6 (by omega) (by omega)).symm ⟨j.2.1.symm, j.2.2.2.1.symm⟩ len (fun b => (f 8 b (by omega) (by omega)).symm) (fun b => (f 12 b (by omega) (by omega)).symm) (fun b => (f 14 b (by omega) (by omega)).symm) (fun x b q => (f5 x b q).symm)
  rw [y_dc.fr e0 j.2.2.2.1 f5]
  exact (h back).fr e0 j.2.1 (fun b => f 222 b (by omega) (by omega))
/-- where the lines of o begin -/
def y_SV (o : Int) (s : z_M) : Prop := (o = 240 ∨ o = 249) ∧ (y_OKc s → ∀ i : Int, 0 ≤ i → i < s o 6 → 0 ≤ s (o + 8) i ∧ s (o + 8) i < s (o + 8) (i + 1) ∧ s (o + 8) (i + 1) ≤ s 191 16)
theorem y_SV.fo {o : Int} {s s' : z_M} (h : y_SV o s) (e0 : s' 191 16 = s 191 16) (e1 : s' 6 6 = s 6 6) (e2 : s' 191 17 = s 191 17) (e3 : s' 191 18 = s 191 18) (e4 : ∀ b, s' 3 b = s 3 b) (e5 : ∀ b, s' 8 b = s 8 b) (e6 : ∀ b, s' 12 b = s 12 b) (e7 : ∀ b, s' 14 b = s 14 b) (e8 : ∀ b, s' 16 b = s 16 b) (e9 : ∀ b, s' 18 b = s 18 b) (e10 : ∀ b, s' 193 b = s 193 b) (e11 : ∀ b, s' 195 b = s 195 b) (e12 : ∀ b, s' 197 b = s 197 b) (e13 : ∀ b, s' 199 b = s 199 b) (e14 : ∀ b, s' 201 b = s 201 b) (e15 : ∀ b, s' 203 b = s 203 b) (e16 : ∀ b, s' 205 b = s 205 b) (e17 : ∀ b, s' 207 b = s 207 b) (e18 : ∀ b, s' 209 b = s 209 b) (e19 : ∀ b, s' 211 b = s 211 b) (e20 : ∀ b, s' 213 b = s 213 b) (e21 : ∀ b, s' 215 b = s 215 b) (e22 : ∀ b, s' 217 b = s 217 b) (e23 : ∀ b, s' 219 b = s 219 b) (n : s' o 6 = s o 6) (c : ∀ b, s' (o + 8) b = s (o + 8) b) : y_SV o s' := ⟨h.1, fun ok i p q => by
  have f := (y_f5 e10 e13 e14 e15 e16)
  have back : y_OKc s := ok.fr (ok.1.fr e0.symm e1.symm e2.symm e3.symm (fun b => (e4 b).symm) (fun b => (e5 b).symm) (fun b => (e6 b).symm) (fun b => (e7 b).symm) (fun b => (e8 b).symm) (fun b => (e9 b).symm) (fun b => (e10 b).symm) (fun b => (e11 b).symm) (fun b => (e12 b).symm) (fun b => (e13 b).symm) (fun b => (e14 b).symm) (fun b => (e15 b).symm) (fun b => (e16 b).symm) (fun b => (e17 b).symm) (fun b => (e18 b).symm) (fun b => (e19 b).symm) (fun b => (e20 b).symm) (fun b => (e21 b).symm) (fun b => (e22 b).symm) (fun b => (e23 b).symm)) e0.symm e1.symm ⟨(e4 2).symm, (e4 6).symm⟩ (by rw [← e4 0]; exact ok.2.2.2.2.2.1) (fun b => (e5 b).symm) (fun b => (e6 b).symm) (fun b => (e7 b).symm) (fun x b q => (f x b q).symm)
  rw [c, c, e0]
  exact h.2 back i p (by omega)⟩
theorem y_SV.fr {o : Int} {s s' : z_M} (h : y_SV o s) (e0 : s' 191 16 = s 191 16) (e1 : s' 6 6 = s 6 6) (e2 : s' 191 17 = s 191 17) (e3 : s' 191 18 = s 191 18) (e4 : ∀ b, s' 3 b = s 3 b) (e5 : ∀ b, s' 8 b = s 8 b) (e6 : ∀ b, s' 12 b = s 12 b) (e7 : ∀ b, s' 14 b = s 14 b) (e8 : ∀ b, s' 16 b = s 16 b) (e9 : ∀ b, s' 18 b = s 18 b) (e10 : ∀ b, s' 193 b = s 193 b) (e11 : ∀ b, s' 195 b = s 195 b) (e12 : ∀ b, s' 197 b = s 197 b) (e13 : ∀ b, s' 199 b = s 199 b) (e14 : ∀ b, s' 201 b = s 201 b) (e15 : ∀ b, s' 203 b = s 203 b) (e16 : ∀ b, s' 205 b = s 205 b) (e17 : ∀ b, s' 207 b = s 207 b) (e18 : ∀ b, s' 209 b = s 209 b) (e19 : ∀ b, s' 211 b = s 211 b) (e20 : ∀ b, s' 213 b = s 213 b) (e21 : ∀ b, s' 215 b = s 215 b) (e22 : ∀ b, s' 217 b = s 217 b) (e23 : ∀ b, s' 219 b = s 219 b) (n1 : s' 240 6 = s 240 6) (c1 : ∀ b, s' 248 b = s 248 b) (n2 : s' 249 6 = s 249 6) (c2 : ∀ b, s' 257 b = s 257 b) : y_SV o s' := by
  rcases h.1 with rfl | rfl
  · exact h.fo e0 e1 e2 e3 e4 e5 e6 e7 e8 e9 e10 e11 e12 e13 e14 e15 e16 e17 e18 e19 e20 e21 e22 e23 n1 c1
  · exact h.fo e0 e1 e2 e3 e4 e5 e6 e7 e8 e9 e10 e11 e12 e13 e14 e15 e16 e17 e18 e19 e20 e21 e22 e23 n2 c2
theorem y_SA.fr {s s' : z_M} (h : y_SV 240 s) (e0 : s' 191 16 = s 191 16) (e1 : s' 6 6 = s 6 6) (e2 : s' 191 17 = s 191 17) (e3 : s' 191 18 = s 191 18) (e4 : ∀ b, s' 3 b = s 3 b) (e5 : ∀ b, s' 8 b = s 8 b) (e6 : ∀ b, s' 12 b = s 12 b) (e7 : ∀ b, s' 14 b = s 14 b) (e8 : ∀ b, s' 16 b = s 16 b) (e9 : ∀ b, s' 18 b = s 18 b) (e10 : ∀ b, s' 193 b = s 193 b) (e11 : ∀ b, s' 195 b = s 195 b) (e12 : ∀ b, s' 197 b = s 197 b) (e13 : ∀ b, s' 199 b = s 199 b) (e14 : ∀ b, s' 201 b = s 201 b) (e15 : ∀ b, s' 203 b = s 203 b) (e16 : ∀ b, s' 205 b = s 205 b) (e17 : ∀ b, s' 207 b = s 207 b) (e18 : ∀ b, s' 209 b = s 209 b) (e19 : ∀ b, s' 211 b = s 211 b) (e20 : ∀ b, s' 213 b = s 213 b) (e21 : ∀ b, s' 215 b = s 215 b) (e22 : ∀ b, s' 217 b = s 217 b) (e23 : ∀ b, s' 219 b = s 219 b) (n1 : s' 240 6 = s 240 6) (c1 : ∀ b, s' 248 b = s 248 b) : y_SV 240 s' := h.fo e0 e1 e2 e3 e4 e5 e6 e7 e8 e9 e10 e11 e12 e13 e14 e15 e16 e17 e18 e19 e20 e21 e22 e23 n1 c1
/-- and where they are fresh -/
def y_L3 (s : z_M) : Prop := s 1 17 = 0 ∨ y_SV 240 s
def y_V3 (s : z_M) : Prop := y_V2 s ∧ (s 1 16 = 0 ∨ (y_KC s ∧ y_L3 s))
theorem y_L3.fr {s s' : z_M} (h : y_L3 s) (f : s' 1 17 = s 1 17) (e0 : s' 191 16 = s 191 16) (e1 : s' 6 6 = s 6 6) (e2 : s' 191 17 = s 191 17) (e3 : s' 191 18 = s 191 18) (e4 : ∀ b, s' 3 b = s 3 b) (e5 : ∀ b, s' 8 b = s 8 b) (e6 : ∀ b, s' 12 b = s 12 b) (e7 : ∀ b, s' 14 b = s 14 b) (e8 : ∀ b, s' 16 b = s 16 b) (e9 : ∀ b, s' 18 b = s 18 b) (e10 : ∀ b, s' 193 b = s 193 b) (e11 : ∀ b, s' 195 b = s 195 b) (e12 : ∀ b, s' 197 b = s 197 b) (e13 : ∀ b, s' 199 b = s 199 b) (e14 : ∀ b, s' 201 b = s 201 b) (e15 : ∀ b, s' 203 b = s 203 b) (e16 : ∀ b, s' 205 b = s 205 b) (e17 : ∀ b, s' 207 b = s 207 b) (e18 : ∀ b, s' 209 b = s 209 b) (e19 : ∀ b, s' 211 b = s 211 b) (e20 : ∀ b, s' 213 b = s 213 b) (e21 : ∀ b, s' 215 b = s 215 b) (e22 : ∀ b, s' 217 b = s 217 b) (e23 : ∀ b, s' 219 b = s 219 b) (n1 : s' 240 6 = s 240 6) (c1 : ∀ b, s' 248 b = s 248 b) : y_L3 s' := h.imp (fun z => f.trans z) (fun k => y_SA.fr k e0 e1 e2 e3 e4 e5 e6 e7 e8 e9 e10 e11 e12 e13 e14 e15 e16 e17 e18 e19 e20 e21 e22 e23 n1 c1)
theorem y_V3.fr {s s' : z_M} (h : y_V3 s) (e : s' 1 16 = s 1 16) (f : s' 1 17 = s 1 17) (e0 : s' 191 16 = s 191 16) (e1 : s' 6 6 = s 6 6) (e2 : s' 191 17 = s 191 17) (e3 : s' 191 18 = s 191 18) (e4 : ∀ b, s' 3 b = s 3 b) (e5 : ∀ b, s' 8 b = s 8 b) (e6 : ∀ b, s' 12 b = s 12 b) (e7 : ∀ b, s' 14 b = s 14 b) (e8 : ∀ b, s' 16 b = s 16 b) (e9 : ∀ b, s' 18 b = s 18 b) (e10 : ∀ b, s' 193 b = s 193 b) (e11 : ∀ b, s' 195 b = s 195 b) (e12 : ∀ b, s' 197 b = s 197 b) (e13 : ∀ b, s' 199 b = s 199 b) (e14 : ∀ b, s' 201 b = s 201 b) (e15 : ∀ b, s' 203 b = s 203 b) (e16 : ∀ b, s' 205 b = s 205 b) (e17 : ∀ b, s' 207 b = s 207 b) (e18 : ∀ b, s' 209 b = s 209 b) (e19 : ∀ b, s' 211 b = s 211 b) (e20 : ∀ b, s' 213 b = s 213 b) (e21 : ∀ b, s' 215 b = s 215 b) (e22 : ∀ b, s' 217 b = s 217 b) (e23 : ∀ b, s' 219 b = s 219 b) (e24 : ∀ b, s' 222 b = s 222 b) (n1 : s' 240 6 = s 240 6) (c1 : ∀ b, s' 248 b = s 248 b) : y_V3 s' := ⟨h.1.fr e e0 e1 e2 e3 e4 e5 e6 e7 e8 e9 e10 e11 e12 e13 e14 e15 e16 e17 e18 e19 e20 e21 e22 e23, h.2.imp (fun z => e.trans z) (fun k => ⟨k.1.fr e0 e1 e2 e3 e4 e5 e6 e7 e8 e9 e10 e11 e12 e13 e14 e15 e16 e17 e18 e19 e20 e21 e22 e23 e24, k.2.fr f e0 e1 e2 e3 e4 e5 e6 e7 e8 e9 e10 e11 e12 e13 e14 e15 e16 e17 e18 e19 e20 e21 e22 e23 n1 c1⟩)⟩
theorem y_L3.to {s : z_M} (h : y_L3 s) (n : s 1 17 ≠ 0) : y_SV 240 s := h.resolve_left n
theorem y_V3.u {s : z_M} (h : y_U3 s) (l : y_L3 s) : y_V3 s := ⟨y_V2.u h.1, Or.inr ⟨h.2, l⟩⟩
theorem y_V3.to {s : z_M} (h : y_V3 s) (n : s 1 16 ≠ 0) : y_U3 s := ⟨h.1.to n, (h.2.resolve_left n).1⟩
theorem y_V3.l {s : z_M} (h : y_V3 s) (n : s 1 16 ≠ 0) : y_L3 s := (h.2.resolve_left n).2
theorem y_V3.cls {s s' : z_M} (h : y_V3 s) (f : ∀ a b : Int, a ≤ 308 → s' a b = s a b) : y_V3 s' := h.fr (f _ _ (by decide)) (f _ _ (by decide)) (f _ _ (by decide)) (f _ _ (by decide)) (f _ _ (by decide)) (f _ _ (by decide)) (fun b => f _ b (by decide)) (fun b => f _ b (by decide)) (fun b => f _ b (by decide)) (fun b => f _ b (by decide)) (fun b => f _ b (by decide)) (fun b => f _ b (by decide)) (fun b => f _ b (by decide)) (fun b => f _ b (by decide)) (fun b => f _ b (by decide)) (fun b => f _ b (by decide)) (fun b => f _ b (by decide)) (fun b => f _ b (by decide)) (fun b => f _ b (by decide)) (fun b => f _ b (by decide)) (fun b => f _ b (by decide)) (fun b => f _ b (by decide)) (fun b => f _ b (by decide)) (fun b => f _ b (by decide)) (fun b => f _ b (by decide)) (fun b => f _ b (by decide)) (fun b => f _ b (by decide)) (f _ _ (by decide)) (fun b => f _ b (by decide))
theorem y_V3.z {s : z_M} (b : y_B0 s) (z : s 1 16 = 0) : y_V3 s := ⟨⟨b, Or.inl z⟩, Or.inl z⟩
theorem y_V3.st {s s1 s2 : z_M} {i v : Int} (h : y_V3 s) (len : 12 ≤ s 3 0 ∧ s 3 0 ≤ 999) (hi : i = 0 ∨ i = 3 ∨ i = 4 ∨ i = 8) (e22 : s1 = z_rp s 2 i v) (g23 : ∀ a b : Int, a ≠ 3 → s1 a b = s a b) (g28 : ∀ a b : Int, a ≠ 1 → s2 a b = s1 a b) (g29 : ∀ b : Int, b ≠ 17 → s2 1 b = s1 1 b) (z17 : s2 1 17 = 0) : y_V3 s2 :=
  ⟨h.1.st hi e22 g23 g28 g29, h.2.imp (fun z => ((g29 16 (by decide)).trans (g23 1 16 (by decide))).trans z) (fun k => ⟨k.1.st len (fun x b p q => (g28 x b p).trans (g23 x b q)) ⟨(g28 3 1 (by decide)).trans (y_rpo e22 (by omega)), (g28 3 2 (by decide)).trans (y_rpo e22 (by omega)), (g28 3 5 (by decide)).trans (y_rpo e22 (by omega)), (g28 3 6 (by decide)).trans (y_rpo e22 (by omega)), (g28 3 7 (by decide)).trans (y_rpo e22 (by omega))⟩, Or.inl z17⟩)⟩
/-- from unit a to unit b, where units are what they should be -/
def y_AR (s : z_M) (a b : Int) : Prop := y_OKc s → 0 ≤ a ∧ a ≤ b ∧ b < s 191 16
theorem y_AR.i {s : z_M} {a b : Int} (h0 : 0 ≤ a) (h1 : a ≤ b) (h2 : b < s 191 16) : y_AR s a b := fun _ => ⟨h0, h1, h2⟩
theorem v_k247 {o : Int} (h : o = 240 ∨ o = 249) {s : z_M} {i : Int} (h0 : 0 ≤ i ∧ i ≤ 200) : z_rg s (o + 7) i = s (o + 8) i := by
  have r := v_br7 (o := o) h
  exact v_rgn r.2.1 r.2.2 ⟨h0.1, by omega⟩
theorem y_SV.ar {o : Int} {s : z_M} {k i j x y b : Int} (h : y_SV o s) (e1 : z_rg s k i = x) (e2 : z_rg s k j = y) (hk : k = o + 7) (hi : 0 ≤ i) (hc : i < s o 6) (hm : s o 6 ≤ 200) (hj : j = i + 1) (hb : b = y - 1) : y_AR s x b := fun ok => by
  subst hk
  subst hj
  rw [v_k247 h.1 ⟨hi, by omega⟩] at e1
  rw [v_k247 h.1 ⟨by omega, by omega⟩] at e2
  have := h.2 ok i hi hc
  omega
/-- a length, where it is asked for -/
def y_LNr (s : z_M) (a : Int) : Prop := (12 ≤ s 3 0 ∧ s 3 0 ≤ 999) → 0 ≤ a ∧ a ≤ 10000
theorem y_LNr.i {s : z_M} {a : Int} (h : 0 ≤ a ∧ a ≤ 10000) : y_LNr s a := fun _ => h
theorem y_LNr.t {s s1 : z_M} {x : Int} (e : z_rg s1 2 0 = x) (k : s 3 0 = s1 3 0) : y_LNr s x := fun q => by
  have r : z_rg s1 2 0 = s1 3 0 := v_rgn v_s2.2.1 v_s2.2.2 (by decide)
  omega
theorem y_LR.SV {nx r : Int → Int} {n : Int} {c : Nat} (h : y_LR nx r n c) (hb : ∀ a : Int, 0 ≤ a → a < n → a < nx a ∧ nx a ≤ n) {i : Int} (p : 0 ≤ i) (q : i < c) : 0 ≤ r i ∧ r i < r (i + 1) ∧ r (i + 1) ≤ n := by
  have pos : ∀ k : Nat, k ≤ c → 0 ≤ y_it nx k := by
    intro k
    induction k with
    | zero => intro _; exact Int.le_refl 0
    | succ k ih =>
      intro hk
      have a := ih (by omega)
      have b := hb _ a (h.2.1 k (by omega))
      rw [y_it_s]; omega
  obtain ⟨k, rfl⟩ : ∃ k : Nat, i = k := ⟨i.toNat, by omega⟩
  have e1 := h.1 k (by omega)
  have e2 := h.1 (k + 1) (by omega)
  have a := pos k (by omega)
  have b := hb _ a (h.2.1 k (by omega))
  rw [y_it_s] at e2
  rw [show (((k + 1 : Nat)) : Int) = (k : Int) + 1 by omega] at e2
  rw [e1, e2]
  exact ⟨a, b.1, b.2⟩
theorem e_goK {fu : Nat} (hfu : 8589934592 ≤ fu) {s : z_M} {o len md : Int} (ho : y_ob4 o) (u : y_U3 s) (hl : y_LNr s len) (E : z_T (fX1_go fu s o len md) (fun _ s' => ∀ x y : Int, x ≤ 219 → s' x y = s x y)) : z_T (fX1_go fu s o len md) (fun _ s' => y_U3 s' ∧ y_SV o s') := by
  by_cases ok : y_OKc s
  · have cm := ok.CM (u.2 ok)
    refine T_mono (T_and E (e_go hfu ho cm rfl (hl ok.2.2.2.2.2.1) (md := md))) (fun v s' hq => ?_)
    obtain ⟨f, rfl, ⟨nx, c, nxd, cn, ce, lr⟩, cm', _⟩ := hq
    refine ⟨u.of f (fun _ => cm'.2.1), ho, fun _ i p q => ?_⟩
    rw [ce] at q
    rw [f 191 16 (by decide)]
    exact lr.SV nxd.b p q
  · refine T_mono E (fun v s' f => ?_)
    have no : ¬ y_OKc s' := fun w => ok (w.lo (fun x b q => (f x b q).symm))
    exact ⟨u.of f (fun w => absurd w ok), ho, fun w => absurd w no⟩
