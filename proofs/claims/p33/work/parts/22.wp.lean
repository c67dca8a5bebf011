/-! A FUNCTION'S RUN: z_T E P says that E says something, and P of it -/
def z_T (E : z_O) (P : z_V → z_M → Prop) : Prop := ∃ v s, E = some (v, s) ∧ P v s
section ZT
variable {P : z_V → z_M → Prop} {E A B r : z_O} {s : z_M} {v : z_V} {x k j : Int}
theorem T_ret (h : P v s) : z_T (some (v, s)) P := ⟨v, s, rfl, h⟩
theorem T_of {E' : z_O} (e : E = E') (h : z_T E' P) : z_T E P := e ▸ h
theorem T_mono {Q : z_V → z_M → Prop} (h : z_T E Q) (hq : ∀ v s, Q v s → P v s) : z_T E P := by
  obtain ⟨v, s, e, q⟩ := h
  exact ⟨v, s, e, hq v s q⟩
theorem T_if1 {c : Prop} [Decidable c] (hc : c) (h : z_T A P) : z_T (if c then A else B) P := by rw [if_pos hc]; exact h
theorem T_if0 {c : Prop} [Decidable c] (hc : ¬ c) (h : z_T B P) : z_T (if c then A else B) P := by rw [if_neg hc]; exact h
theorem T_ite {c : Prop} [Decidable c] (h1 : c → z_T A P) (h2 : ¬ c → z_T B P) : z_T (if c then A else B) P := by
  by_cases hc : c
  · rw [if_pos hc]; exact h1 hc
  · rw [if_neg hc]; exact h2 hc
theorem T_let {α : Type} {a : α} {f : α → z_O} (b : α) (e : a = b) (h : z_T (f b) P) : z_T (z_let a f) P := by subst e; exact h
theorem T_letg {α : Type} {a : α} {f : α → z_O} (h : ∀ x, z_T (f x) P) : z_T (z_let a f) P := h a
theorem T_up {f : z_M → z_O} (h : z_T (f (z_up s k j x)) P) : z_T (z_let (z_up s k j x) f) P := h
theorem z_up_id (e : s k j = x) : z_up s k j x = s := funext fun a => funext fun b => by
  by_cases q : a = k ∧ b = j
  · obtain ⟨rfl, rfl⟩ := q
    rw [z_up_s, e]
  · exact if_neg q
theorem T_up0 {f : z_M → z_O} (e : s k j = x) (h : z_T (f s) P) : z_T (z_let (z_up s k j x) f) P := by rw [z_up_id e]; exact h
theorem T_bI {f : Int → z_M → z_O} (h : z_T r (fun v s => z_T (z_bI (some (v, s)) f) P)) : z_T (z_bI r f) P := by
  obtain ⟨v, s, rfl, q⟩ := h; exact q
theorem T_bL {f : Int → z_M → z_O} (h : z_T r (fun v s => z_T (z_bL (some (v, s)) f) P)) : z_T (z_bL r f) P := by
  obtain ⟨v, s, rfl, q⟩ := h; exact q
theorem T_bR {f : Int → z_M → z_O} (h : z_T r (fun v s => z_T (z_bR (some (v, s)) f) P)) : z_T (z_bR r f) P := by
  obtain ⟨v, s, rfl, q⟩ := h; exact q
theorem T_bN {f : z_M → z_O} (h : z_T r (fun v s => z_T (z_bN (some (v, s)) f) P)) : z_T (z_bN r f) P := by
  obtain ⟨v, s, rfl, q⟩ := h; exact q
theorem T_rI {f : Int → z_M → z_O} (h : z_T (f x s) P) : z_T (some (vI x, s)) (fun v s => z_T (z_bI (some (v, s)) f) P) := ⟨_, _, rfl, h⟩
theorem T_rL {f : Int → z_M → z_O} (h : z_T (f x s) P) : z_T (some (vL x, s)) (fun v s => z_T (z_bL (some (v, s)) f) P) := ⟨_, _, rfl, h⟩
theorem T_rR {f : Int → z_M → z_O} (h : z_T (f x s) P) : z_T (some (vR x, s)) (fun v s => z_T (z_bR (some (v, s)) f) P) := ⟨_, _, rfl, h⟩
theorem T_rN {f : z_M → z_O} (h : z_T (f s) P) : z_T (some (vN, s)) (fun v s => z_T (z_bN (some (v, s)) f) P) := ⟨_, _, rfl, h⟩
theorem T_xI {f : Int → z_M → z_O} (h : z_T (some (vX x, s)) P) : z_T (some (vX x, s)) (fun v s => z_T (z_bI (some (v, s)) f) P) := ⟨_, _, rfl, h⟩
theorem T_xL {f : Int → z_M → z_O} (h : z_T (some (vX x, s)) P) : z_T (some (vX x, s)) (fun v s => z_T (z_bL (some (v, s)) f) P) := ⟨_, _, rfl, h⟩
theorem T_xR {f : Int → z_M → z_O} (h : z_T (some (vX x, s)) P) : z_T (some (vX x, s)) (fun v s => z_T (z_bR (some (v, s)) f) P) := ⟨_, _, rfl, h⟩
theorem T_xN {f : z_M → z_O} (h : z_T (some (vX x, s)) P) : z_T (some (vX x, s)) (fun v s => z_T (z_bN (some (v, s)) f) P) := ⟨_, _, rfl, h⟩
theorem T_cI {f : Int → z_M → z_O} {h0 h1 : z_M → z_O} (h : z_T r (fun v s => z_T (z_cI (some (v, s)) f h0 h1) P)) : z_T (z_cI r f h0 h1) P := by
  obtain ⟨v, s, rfl, q⟩ := h; exact q
theorem T_cL {f : Int → z_M → z_O} {h0 h1 : z_M → z_O} (h : z_T r (fun v s => z_T (z_cL (some (v, s)) f h0 h1) P)) : z_T (z_cL r f h0 h1) P := by
  obtain ⟨v, s, rfl, q⟩ := h; exact q
theorem T_rcI {f : Int → z_M → z_O} {h0 h1 : z_M → z_O} (h : z_T (f x s) P) : z_T (some (vI x, s)) (fun v s => z_T (z_cI (some (v, s)) f h0 h1) P) := ⟨_, _, rfl, h⟩
theorem T_rcL {f : Int → z_M → z_O} {h0 h1 : z_M → z_O} (h : z_T (f x s) P) : z_T (some (vL x, s)) (fun v s => z_T (z_cL (some (v, s)) f h0 h1) P) := ⟨_, _, rfl, h⟩
theorem T_x0I {f : Int → z_M → z_O} {h0 h1 : z_M → z_O} (h : z_T (h0 s) P) : z_T (some (vX 0, s)) (fun v s => z_T (z_cI (some (v, s)) f h0 h1) P) := ⟨_, _, rfl, h⟩
theorem T_x1I {f : Int → z_M → z_O} {h0 h1 : z_M → z_O} (h : z_T (h1 s) P) : z_T (some (vX 1, s)) (fun v s => z_T (z_cI (some (v, s)) f h0 h1) P) := ⟨_, _, rfl, h⟩
theorem T_x0L {f : Int → z_M → z_O} {h0 h1 : z_M → z_O} (h : z_T (h0 s) P) : z_T (some (vX 0, s)) (fun v s => z_T (z_cL (some (v, s)) f h0 h1) P) := ⟨_, _, rfl, h⟩
theorem T_x1L {f : Int → z_M → z_O} {h0 h1 : z_M → z_O} (h : z_T (h1 s) P) : z_T (some (vX 1, s)) (fun v s => z_T (z_cL (some (v, s)) f h0 h1) P) := ⟨_, _, rfl, h⟩
end ZT
/-- the reference's cells are as they were made -/
def z_MF (s : z_M) : Prop := ∀ k j : Int, 309 ≤ k → k ≤ 7657 → s k j = z_s0 k j
theorem z_MF0 : z_MF z_s0 := fun _ _ _ _ => rfl
theorem z_MF.up {s : z_M} {k j v : Int} (h : z_MF s) (hk : k < 309 ∨ 7657 < k) : z_MF (z_up s k j v) := fun a b h1 h2 => by
  rw [z_up_k (by omega)]; exact h a b h1 h2
def z_kr (s : z_M) : z_O := if z_bl 1 then some (vI 1, s) else none
