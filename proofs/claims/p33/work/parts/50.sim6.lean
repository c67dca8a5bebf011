/-! READING, 6: a sign more in the reference -/
theorem y_SD.rf {s : z_M} : y_SD s s := ⟨rfl, rfl, fun _ => rfl, fun _ => rfl, fun _ => rfl, fun _ => rfl⟩
theorem y_SD.tr {r s s' : z_M} (h : y_SD r s) (k : y_SD s s') : y_SD r s' := ⟨k.1.trans h.1, k.2.1.trans h.2.1, fun b => (k.2.2.1 b).trans (h.2.2.1 b), fun b => (k.2.2.2.1 b).trans (h.2.2.2.1 b), fun b => (k.2.2.2.2.1 b).trans (h.2.2.2.2.1 b), fun b => (k.2.2.2.2.2 b).trans (h.2.2.2.2.2 b)⟩
theorem y_SD.fr {r s s' : z_M} (h : y_SD r s) (k0 : s' 329 0 = s 329 0) (k2 : s' 329 2 = s 329 2) (a : ∀ b, s' 344 b = s 344 b) (b : ∀ b, s' 359 b = s 359 b) (c : ∀ b, s' 374 b = s 374 b) (d : ∀ b, s' 389 b = s 389 b) : y_SD r s' := h.tr ⟨k0, k2, a, b, c, d⟩
def y_RW (r s : z_M) (n : Int) : Prop := ∀ i : Int, i ≠ n → s 344 i = r 344 i ∧ s 359 i = r 359 i ∧ s 374 i = r 374 i ∧ s 389 i = r 389 i
theorem y_RW.of {r s : z_M} {n : Int} (h : y_SD r s) : y_RW r s n := fun i _ => ⟨h.2.2.1 i, h.2.2.2.1 i, h.2.2.2.2.1 i, h.2.2.2.2.2 i⟩
theorem y_RW.st {r s s' : z_M} {n : Int} (h : y_RW r s n) (a : ∀ b, b ≠ n → s' 344 b = s 344 b) (b : ∀ b, b ≠ n → s' 359 b = s 359 b) (c : ∀ b, b ≠ n → s' 374 b = s 374 b) (d : ∀ b, b ≠ n → s' 389 b = s 389 b) : y_RW r s' n := fun i q => by
  rw [a i q, b i q, c i q, d i q]; exact h i q
theorem y_RW.fr {r s s' : z_M} {n : Int} (h : y_RW r s n) (a : ∀ b, s' 344 b = s 344 b) (b : ∀ b, s' 359 b = s 359 b) (c : ∀ b, s' 374 b = s 374 b) (d : ∀ b, s' 389 b = s 389 b) : y_RW r s' n := h.st (fun x _ => a x) (fun x _ => b x) (fun x _ => c x) (fun x _ => d x)
theorem y_RW.cg {r s : z_M} {n n' : Int} (h : y_RW r s n) (e : n' = n) : y_RW r s n' := by subst e; exact h
def y_VA (r s : z_M) (n kd bs : Int) : Prop := s 344 n = r 311 (r 309 4) ∧ s 359 n = kd ∧ s 374 n = bs
theorem y_VA.fr {r s s' : z_M} {n kd bs : Int} (h : y_VA r s n kd bs) (a : ∀ b, s' 344 b = s 344 b) (b : ∀ b, s' 359 b = s 359 b) (c : ∀ b, s' 374 b = s 374 b) : y_VA r s' n kd bs := ⟨(a n).trans h.1, (b n).trans h.2.1, (c n).trans h.2.2⟩
theorem y_VA.cg {r s : z_M} {n kd bs n' kd' bs' : Int} (h : y_VA r s n kd bs) (e : n' = n) (e2 : kd' = kd) (e3 : bs' = bs) : y_VA r s n' kd' bs' := by subst e; subst e2; subst e3; exact h
theorem y_VA.mk {r s s' : z_M} {n kd bs x v : Int} (k : ∀ b, s 311 b = r 311 b) (e1 : s' 344 n = v) (e2 : s 311 x = v) (e3 : x = r 309 4) (e4 : s' 359 n = kd) (e5 : s' 374 n = bs) : y_VA r s' n kd bs := by
  subst e3
  exact ⟨by rw [e1, ← e2, k], e4, e5⟩
def y_MK (s : z_M) (n v : Int) : Prop := s 389 n = v
theorem y_MK.fr {s s' : z_M} {n v : Int} (h : y_MK s n v) (k : ∀ b, s' 389 b = s 389 b) : y_MK s' n v := (k n).trans h
theorem y_MK.cg {s : z_M} {n v n' v' : Int} (h : y_MK s n v) (e : n' = n) (e2 : v' = v) : y_MK s n' v' := by subst e; subst e2; exact h
def y_AS (r s : z_M) (kd bs : Int) : Prop := (r 309 6 ≠ 0 → s 309 6 = r 309 6 ∧ s 309 7 = r 309 7) ∧ (r 309 6 = 0 → s 309 6 = 0 → y_MA r s kd bs) ∧ (r 309 6 = 0 → s 309 6 ≠ 0 → s 309 6 = 2 ∧ s 309 7 = r 309 4 ∧ r 329 0 = 200 ∧ y_SD r s ∧ s 329 1 = r 329 1) ∧ y_GS r s
theorem y_AS.no {r s : z_M} {kd bs : Int} (h : y_SD r s) (gs : y_GS r s) (h0 : s 309 6 ≠ 0) (h1 : s 329 1 = r 329 1) (h2 : (r 309 6 = 0 ∧ s 309 6 = 2 ∧ s 309 7 = r 309 4 ∧ r 329 0 = 200) ∨ (r 309 6 ≠ 0 ∧ s 309 6 = r 309 6 ∧ s 309 7 = r 309 7)) : y_AS r s kd bs :=
  ⟨fun q => by omega, fun _ q => absurd q h0, fun q _ => ⟨by omega, by omega, by omega, h, h1⟩, gs⟩
theorem y_AS.yes {r s : z_M} {kd bs n v : Int} (h : y_RW r s n) (va : y_VA r s n kd bs) (mk : y_MK s n v) (gs : y_GS r s) (hn : n = r 329 0) (h0 : r 309 6 = 0) (e0 : s 329 0 = r 329 0 + 1 ∧ r 329 0 < 200) (e1 : s 329 1 = r 329 1) (e2 : s 329 2 = r 329 2) (hv : ((kd = 0 ∨ kd = 7) ∧ v = r 329 2) ∨ (kd ≠ 0 ∧ kd ≠ 7 ∧ v = 0)) (h9 : s 309 6 = 0) : y_AS r s kd bs := by
  subst hn
  refine ⟨fun q => absurd h0 q, fun _ _ => ⟨e0.1, e1, e2, e0.2, va.1, va.2.1, va.2.2, ?_, fun i q => h i (by omega)⟩, fun _ q => absurd h9 q, gs⟩
  rcases hv with ⟨a, b⟩ | ⟨a, b, d⟩
  · rw [if_pos a]; exact b ▸ mk
  · rw [if_neg (by omega)]; exact d ▸ mk
