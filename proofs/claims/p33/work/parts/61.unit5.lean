/-! UNITS of the class, all rows, between calls -/
theorem y_B0.fr {s s' : z_M} (h : y_B0 s) (e1 : s' 211 0 = s 211 0) (e2 : s' 213 0 = s 213 0) : y_B0 s' := ⟨e1.trans h.1, e2.trans h.2⟩
theorem y_UD.fc {s s' : z_M} (h : y_UD s) (e0 : s' 191 16 = s 191 16) (e1 : s' 6 6 = s 6 6) (e2 : s' 191 17 = s 191 17) (e3 : s' 191 18 = s 191 18) (e4 : s' 3 1 = s 3 1) (e5 : s' 3 5 = s 3 5) (e6 : s' 3 7 = s 3 7) (e7 : ∀ b, s' 8 b = s 8 b) (e8 : ∀ b, s' 12 b = s 12 b) (e9 : ∀ b, s' 14 b = s 14 b) (e10 : ∀ b, s' 16 b = s 16 b) (e11 : ∀ b, s' 18 b = s 18 b) (e12 : ∀ b, s' 193 b = s 193 b) (e13 : ∀ b, s' 195 b = s 195 b) (e14 : ∀ b, s' 197 b = s 197 b) (e15 : ∀ b, s' 199 b = s 199 b) (e16 : ∀ b, s' 201 b = s 201 b) (e17 : ∀ b, s' 203 b = s 203 b) (e18 : ∀ b, s' 205 b = s 205 b) (e19 : ∀ b, s' 207 b = s 207 b) (e20 : ∀ b, s' 209 b = s 209 b) (e21 : ∀ b, s' 211 b = s 211 b) (e22 : ∀ b, s' 213 b = s 213 b) (e23 : ∀ b, s' 215 b = s 215 b) (e24 : ∀ b, s' 217 b = s 217 b) (e25 : ∀ b, s' 219 b = s 219 b) : y_UD s' := fun t => by
  refine y_UDc.eq ⟨⟨e0, e2, e3⟩, ⟨e4, e5, e6⟩, fun a q => ?_⟩ (h ((y_TOK.eq e1 e7 e8 e9).mp t))
  rcases q with rfl | rfl | rfl | rfl | rfl | rfl | rfl | rfl | rfl | rfl | rfl | rfl | rfl | rfl | rfl | rfl | rfl
  · exact funext e7
  · exact funext e8
  · exact funext e10
  · exact funext e11
  · exact funext e12
  · exact funext e13
  · exact funext e14
  · exact funext e15
  · exact funext e16
  · exact funext e17
  · exact funext e18
  · exact funext e19
  · exact funext e20
  · exact funext e21
  · exact funext e22
  · exact funext e24
  · exact funext e25
def y_U2 (s : z_M) : Prop := y_B0 s ∧ y_Uu s ∧ y_UD s
def y_V2 (s : z_M) : Prop := y_B0 s ∧ (s 1 16 = 0 ∨ (y_Uu s ∧ y_UD s))
theorem y_U2.ff {s s' : z_M} (h : y_U2 s) (e0 : s' 191 16 = s 191 16) (e1 : s' 6 6 = s 6 6) (e2 : s' 191 17 = s 191 17) (e3 : s' 191 18 = s 191 18) (e4 : s' 3 1 = s 3 1) (e5 : s' 3 5 = s 3 5) (e6 : s' 3 7 = s 3 7) (e7 : ∀ b, s' 8 b = s 8 b) (e8 : ∀ b, s' 12 b = s 12 b) (e9 : ∀ b, s' 14 b = s 14 b) (e10 : ∀ b, s' 16 b = s 16 b) (e11 : ∀ b, s' 18 b = s 18 b) (e12 : ∀ b, s' 193 b = s 193 b) (e13 : ∀ b, s' 195 b = s 195 b) (e14 : ∀ b, s' 197 b = s 197 b) (e15 : ∀ b, s' 199 b = s 199 b) (e16 : ∀ b, s' 201 b = s 201 b) (e17 : ∀ b, s' 203 b = s 203 b) (e18 : ∀ b, s' 205 b = s 205 b) (e19 : ∀ b, s' 207 b = s 207 b) (e20 : ∀ b, s' 209 b = s 209 b) (e21 : ∀ b, s' 211 b = s 211 b) (e22 : ∀ b, s' 213 b = s 213 b) (e23 : ∀ b, s' 215 b = s 215 b) (e24 : ∀ b, s' 217 b = s 217 b) (e25 : ∀ b, s' 219 b = s 219 b) : y_U2 s' := by
  obtain ⟨h0, h1, h2⟩ := h
  exact ⟨h0.fr (e21 0) (e22 0), y_Uu.fr h1 e0 e1 e13 e14 e12 e23 e7 e8 e9, h2.fc e0 e1 e2 e3 e4 e5 e6 e7 e8 e9 e10 e11 e12 e13 e14 e15 e16 e17 e18 e19 e20 e21 e22 e23 e24 e25⟩
theorem y_V2.ff {s s' : z_M} (h : y_V2 s) (e : s' 1 16 = s 1 16) (e0 : s' 191 16 = s 191 16) (e1 : s' 6 6 = s 6 6) (e2 : s' 191 17 = s 191 17) (e3 : s' 191 18 = s 191 18) (e4 : s' 3 1 = s 3 1) (e5 : s' 3 5 = s 3 5) (e6 : s' 3 7 = s 3 7) (e7 : ∀ b, s' 8 b = s 8 b) (e8 : ∀ b, s' 12 b = s 12 b) (e9 : ∀ b, s' 14 b = s 14 b) (e10 : ∀ b, s' 16 b = s 16 b) (e11 : ∀ b, s' 18 b = s 18 b) (e12 : ∀ b, s' 193 b = s 193 b) (e13 : ∀ b, s' 195 b = s 195 b) (e14 : ∀ b, s' 197 b = s 197 b) (e15 : ∀ b, s' 199 b = s 199 b) (e16 : ∀ b, s' 201 b = s 201 b) (e17 : ∀ b, s' 203 b = s 203 b) (e18 : ∀ b, s' 205 b = s 205 b) (e19 : ∀ b, s' 207 b = s 207 b) (e20 : ∀ b, s' 209 b = s 209 b) (e21 : ∀ b, s' 211 b = s 211 b) (e22 : ∀ b, s' 213 b = s 213 b) (e23 : ∀ b, s' 215 b = s 215 b) (e24 : ∀ b, s' 217 b = s 217 b) (e25 : ∀ b, s' 219 b = s 219 b) : y_V2 s' := by
  obtain ⟨h0, h | ⟨h1, h2⟩⟩ := h
  · exact ⟨h0.fr (e21 0) (e22 0), Or.inl (e.trans h)⟩
  · exact ⟨h0.fr (e21 0) (e22 0), Or.inr ⟨y_Uu.fr h1 e0 e1 e13 e14 e12 e23 e7 e8 e9, h2.fc e0 e1 e2 e3 e4 e5 e6 e7 e8 e9 e10 e11 e12 e13 e14 e15 e16 e17 e18 e19 e20 e21 e22 e23 e24 e25⟩⟩
theorem y_U2.fr {s s' : z_M} (h : y_U2 s) (e0 : s' 191 16 = s 191 16) (e1 : s' 6 6 = s 6 6) (e2 : s' 191 17 = s 191 17) (e3 : s' 191 18 = s 191 18) (e4 : ∀ b, s' 3 b = s 3 b) (e5 : ∀ b, s' 8 b = s 8 b) (e6 : ∀ b, s' 12 b = s 12 b) (e7 : ∀ b, s' 14 b = s 14 b) (e8 : ∀ b, s' 16 b = s 16 b) (e9 : ∀ b, s' 18 b = s 18 b) (e10 : ∀ b, s' 193 b = s 193 b) (e11 : ∀ b, s' 195 b = s 195 b) (e12 : ∀ b, s' 197 b = s 197 b) (e13 : ∀ b, s' 199 b = s 199 b) (e14 : ∀ b, s' 201 b = s 201 b) (e15 : ∀ b, s' 203 b = s 203 b) (e16 : ∀ b, s' 205 b = s 205 b) (e17 : ∀ b, s' 207 b = s 207 b) (e18 : ∀ b, s' 209 b = s 209 b) (e19 : ∀ b, s' 211 b = s 211 b) (e20 : ∀ b, s' 213 b = s 213 b) (e21 : ∀ b, s' 215 b = s 215 b) (e22 : ∀ b, s' 217 b = s 217 b) (e23 : ∀ b, s' 219 b = s 219 b) : y_U2 s' := h.ff e0 e1 e2 e3 (e4 1) (e4 5) (e4 7) e5 e6 e7 e8 e9 e10 e11 e12 e13 e14 e15 e16 e17 e18 e19 e20 e21 e22 e23
theorem y_V2.fr {s s' : z_M} (h : y_V2 s) (e : s' 1 16 = s 1 16) (e0 : s' 191 16 = s 191 16) (e1 : s' 6 6 = s 6 6) (e2 : s' 191 17 = s 191 17) (e3 : s' 191 18 = s 191 18) (e4 : ∀ b, s' 3 b = s 3 b) (e5 : ∀ b, s' 8 b = s 8 b) (e6 : ∀ b, s' 12 b = s 12 b) (e7 : ∀ b, s' 14 b = s 14 b) (e8 : ∀ b, s' 16 b = s 16 b) (e9 : ∀ b, s' 18 b = s 18 b) (e10 : ∀ b, s' 193 b = s 193 b) (e11 : ∀ b, s' 195 b = s 195 b) (e12 : ∀ b, s' 197 b = s 197 b) (e13 : ∀ b, s' 199 b = s 199 b) (e14 : ∀ b, s' 201 b = s 201 b) (e15 : ∀ b, s' 203 b = s 203 b) (e16 : ∀ b, s' 205 b = s 205 b) (e17 : ∀ b, s' 207 b = s 207 b) (e18 : ∀ b, s' 209 b = s 209 b) (e19 : ∀ b, s' 211 b = s 211 b) (e20 : ∀ b, s' 213 b = s 213 b) (e21 : ∀ b, s' 215 b = s 215 b) (e22 : ∀ b, s' 217 b = s 217 b) (e23 : ∀ b, s' 219 b = s 219 b) : y_V2 s' := h.ff e e0 e1 e2 e3 (e4 1) (e4 5) (e4 7) e5 e6 e7 e8 e9 e10 e11 e12 e13 e14 e15 e16 e17 e18 e19 e20 e21 e22 e23
theorem y_V2.u {s : z_M} (h : y_U2 s) : y_V2 s := ⟨h.1, Or.inr h.2⟩
theorem y_V2.to {s : z_M} (h : y_V2 s) (n : s 1 16 ≠ 0) : y_U2 s := ⟨h.1, h.2.resolve_left n⟩
theorem y_V2.v {s : z_M} (h : y_V2 s) : y_V16 s := h.2.imp id (fun q => q.1)
theorem y_V2.cls {s s' : z_M} (h : y_V2 s) (f : ∀ a b : Int, a ≤ 308 → s' a b = s a b) : y_V2 s' :=
  h.ff (f _ _ (by decide)) (f _ _ (by decide)) (f _ _ (by decide)) (f _ _ (by decide)) (f _ _ (by decide)) (f _ _ (by decide)) (f _ _ (by decide)) (f _ _ (by decide)) (fun b => f _ b (by decide)) (fun b => f _ b (by decide)) (fun b => f _ b (by decide)) (fun b => f _ b (by decide)) (fun b => f _ b (by decide)) (fun b => f _ b (by decide)) (fun b => f _ b (by decide)) (fun b => f _ b (by decide)) (fun b => f _ b (by decide)) (fun b => f _ b (by decide)) (fun b => f _ b (by decide)) (fun b => f _ b (by decide)) (fun b => f _ b (by decide)) (fun b => f _ b (by decide)) (fun b => f _ b (by decide)) (fun b => f _ b (by decide)) (fun b => f _ b (by decide)) (fun b => f _ b (by decide)) (fun b => f _ b (by decide))
theorem y_rpo {s s' : z_M} {i v j : Int} (e : s' = z_rp s 2 i v) (h : j ≠ i) : s' 3 j = s 3 j := by
  subst e
  unfold z_rp
  split
  · rw [show z_gr 2 0 = 3 by decide +kernel]; exact z_up_j h
  · rfl
theorem y_V2.st {s s1 s2 : z_M} {i v : Int} (h : y_V2 s) (hi : i = 0 ∨ i = 3 ∨ i = 4 ∨ i = 8) (e22 : s1 = z_rp s 2 i v) (g23 : ∀ a b : Int, a ≠ 3 → s1 a b = s a b) (g28 : ∀ a b : Int, a ≠ 1 → s2 a b = s1 a b) (g29 : ∀ b : Int, b ≠ 17 → s2 1 b = s1 1 b) : y_V2 s2 :=
  h.ff ((g29 16 (by decide)).trans (g23 1 16 (by decide))) ((g28 191 16 (by decide)).trans (g23 191 16 (by decide))) ((g28 6 6 (by decide)).trans (g23 6 6 (by decide))) ((g28 191 17 (by decide)).trans (g23 191 17 (by decide))) ((g28 191 18 (by decide)).trans (g23 191 18 (by decide))) ((g28 3 1 (by decide)).trans (y_rpo e22 (by omega))) ((g28 3 5 (by decide)).trans (y_rpo e22 (by omega))) ((g28 3 7 (by decide)).trans (y_rpo e22 (by omega))) (fun b => (g28 8 b (by decide)).trans (g23 8 b (by decide))) (fun b => (g28 12 b (by decide)).trans (g23 12 b (by decide))) (fun b => (g28 14 b (by decide)).trans (g23 14 b (by decide))) (fun b => (g28 16 b (by decide)).trans (g23 16 b (by decide))) (fun b => (g28 18 b (by decide)).trans (g23 18 b (by decide))) (fun b => (g28 193 b (by decide)).trans (g23 193 b (by decide))) (fun b => (g28 195 b (by decide)).trans (g23 195 b (by decide))) (fun b => (g28 197 b (by decide)).trans (g23 197 b (by decide))) (fun b => (g28 199 b (by decide)).trans (g23 199 b (by decide))) (fun b => (g28 201 b (by decide)).trans (g23 201 b (by decide))) (fun b => (g28 203 b (by decide)).trans (g23 203 b (by decide))) (fun b => (g28 205 b (by decide)).trans (g23 205 b (by decide))) (fun b => (g28 207 b (by decide)).trans (g23 207 b (by decide))) (fun b => (g28 209 b (by decide)).trans (g23 209 b (by decide))) (fun b => (g28 211 b (by decide)).trans (g23 211 b (by decide))) (fun b => (g28 213 b (by decide)).trans (g23 213 b (by decide))) (fun b => (g28 215 b (by decide)).trans (g23 215 b (by decide))) (fun b => (g28 217 b (by decide)).trans (g23 217 b (by decide))) (fun b => (g28 219 b (by decide)).trans (g23 219 b (by decide)))
