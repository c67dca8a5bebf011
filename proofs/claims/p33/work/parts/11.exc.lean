/-! THE LAYER, 7: throwing, catching, Math -/
theorem z_R_more {K : z_K} {n : Nat} {τ σ : z_M} {H H' : Heap} (hR : z_R K n τ σ H) (hn : z_NC ≤ n) (hs : H.size ≤ H'.size) (ho : ∀ q : Nat, q < H.size → H'[q]? = H[q]?) : z_R K n τ σ H' :=
  ⟨fun k h1 h2 => (hR.1 k h1 h2).kept (ho _ ((hR.1 k h1 h2).lt)), fun h => by omega, by have := hR.2.2.1; omega, hR.2.2.2⟩
def z_sup : List String := ["java/lang/RuntimeException", "java/lang/Exception"]
theorem z_sup_fit : ∀ n ∈ z_sup, Bundle.fit n = true := by decide +kernel
theorem z_xn_fit {x : Int} : Bundle.fit (z_xn x) = true := by
  unfold z_xn
  by_cases h : x = 0
  · rw [if_pos h]; decide +kernel
  · rw [if_neg h]; decide +kernel
/-- the words of a throw -/
def z_TOK (own : String) (ik ic : Nat) (x : Int) : Prop :=
  Cond.classLink own ik (z_xn x) ∈ z_tbl ∧ Cond.initialized (z_xn x) ∈ z_tbl ∧ (∀ w ∈ (vx_at0 own ic (z_xn x) z_sup).filter goodWord, w ∈ z_tbl) ∧ (∀ w ∈ (vx_at0 own ic (z_xn x) z_sup).filter (fun w => !goodWord w), w ∈ .castable (z_xn x) (z_xn x) :: z_dcl.map .declares) ∧ (∀ w ∈ Cond.classLink own ik (z_xn x) :: Cond.initialized (z_xn x) :: vx_at0 own ic (z_xn x) z_sup, vx_ot w = true)
section ZX
variable {l : Launch} {K : z_K} {M : z_Me} {fr lo bc bs pc : Nat} {lv st : List z_V} {n : Nat} {τ σ : z_M} {Q : z_Q}
theorem z_castX {p : Program} {s : State} {m : MethodId} {args : Array Value} {meth : Method} {c : Code} (F : z_F l K M p s m args meth c) {x : Int} (hx : x = 0 ∨ x = 1) {A : Array Value} : (Cond.castable (z_xn x) (z_xn x)).before A s = true := by
  have hX := F.2.2.2.2.2.2.2.2.2.2.2.2.2.2.2
  rcases hx with h | h <;> subst h
  · exact va_Nw.use rfl hX.2.1
  · exact va_Nw.use rfl hX.1
theorem V_throw {ik ic : Nat} {x : Int} (hT : z_TOK M.1.cls ik ic x) (d0 : decode M.2.1 pc = .ok (.new ik, 3)) (d3 : decode M.2.1 (pc + 3) = .ok (.dup, 1)) (d4 : decode M.2.1 (pc + 4) = .ok (.invokespecial ic, 3)) (d7 : decode M.2.1 (pc + 7) = .ok (.athrow, 1))
    (hx : x = 0 ∨ x = 1) (hh : M.2.2.2.2 = []) (hn : n = z_NC) (hf : 6 ≤ fr) (hlo : z_wt st + 81 ≤ lo) (hb : 1 ≤ bc ∧ 6 ≤ bs) (hq : Q (vX x) n τ σ) : V l K M fr lo bc bs pc lv st n τ σ Q := by
  intro p e R s m args below meth cd H locs cells slots ls F h1 h2 h3 h4 hR hS hl hg hG
  obtain ⟨t1, t2, t3, t4, t5⟩ := hT
  have hts := F.2.2.2.2.2.2.1
  have hW := F.2.2.2.2.2.2.2.2.2.2
  refine vx_throw0 (A := z_A K) F.1 F.2.1 F.2.2.2.2.2.2.2.2.2.1 F.2.2.2.2.2.1 z_xn_fit z_sup_fit (hts _ t1) (hts _ t2) ?_ t5 hW.2.2.1 hW.2.2.2.1 hS (hl.1.trans F.2.2.1.symm) d0 d3 d4 d7 ?_ (by show 2 + 3 < _; omega) (by rw [z_wt_eq]; show _ + (13 * (2 + 1) + 42) ≤ _; omega) (by omega) (by omega) F.2.2.2.2.1 ?_ hS.2.2 (by omega) (by omega)
  · refine vx_hat (B := .castable (z_xn x) (z_xn x) :: z_dcl.map .declares) (fun w hw => hts w (t3 w hw)) t4 (fun w hw => ?_)
    rcases List.mem_cons.mp hw with e | e
    · rw [e]; exact z_castX F hx
    · obtain ⟨y, hy, rfl⟩ := List.mem_map.mp e
      exact va_Nw.use rfl (F.2.2.2.2.2.2.2.2.2.2.2.2.2.2.2.2.2.2.2.2.2.2.2.2.2 y hy)
  · intro z hz
    rw [F.2.2.2.2.2.2.2.1, hh] at hz
    cases hz
  · intro t ha hs ho
    exact ⟨x, n, τ, σ, rfl, hq, z_R_more hR (by omega) hs ho, Nat.le_trans hS.1 hs, fun q h5 h6 => (ho q (Nat.lt_of_lt_of_le h5 hS.1)).trans (hS.2.1 q h5 h6)⟩
/-- it goes on to the caller -/
theorem VX_out {x : Int} (hh : M.2.2.2.2 = []) (hq : Q (vX x) n τ σ) : VX l K M fr lo bc bs pc lv st n τ σ x Q := by
  intro p e R s m args below meth cd H locs cells slots ls ce q F h1 h2 h3 h4 hR hS hl hg hG hcell hv hcl
  refine vx_out ?_ F.2.2.2.2.1 hcell hv hcl (fun t ht ha => ⟨x, n, τ, σ, rfl, hq, by rw [ht]; exact hR, hS.F ht⟩) hS.2.2 (by omega) (by omega)
  intro z hz
  rw [F.2.2.2.2.2.2.2.1, hh] at hz
  cases hz
theorem z_cA {q : Nat} : z_c K (vA q) = .ref q := by
  show Value.ref ((q : Int).toNat) = .ref q
  rw [Int.toNat_natCast]
/-- caught by the first row of the table -/
theorem VX_catch1 {x : Int} {a b h ct : Nat} {hr : List (Nat × Nat × Nat × Nat)} (hh : M.2.2.2.2 = (a, b, h, ct) :: hr) (hx : x = 0 ∨ x = 1) (hw : Cond.classLink M.1.cls ct (z_xn x) ∈ z_tbl) (hc : a ≤ pc ∧ pc < b) (h0 : ct ≠ 0)
    (kk : ∀ q : Nat, V l K M fr lo bc bs h lv [vA q] n τ σ Q) : VX l K M fr lo bc bs pc lv st n τ σ x Q := by
  intro p e R s m args below meth cd H locs cells slots ls ce q F h1 h2 h3 h4 hR hS hl hg hG hcell hv hcl
  have k9 := kk q p e R s m args below meth cd H locs cells slots ls F h1 h2 h3 h4 hR hS hl hg (z_gc (z_gO (by decide) (by decide)) z_gs0)
  rw [List.map_cons, z_cA] at k9
  refine vx_catch (E := z_xn x) (name := z_xn x) F.2.2.2.2.2.1 [] ⟨a, b, h, ct⟩ (tableOf hr) (by rw [F.2.2.2.2.2.2.2.1, hh]; rfl) (fun z hz => by cases hz) ?_ h0 (F.2.2.2.2.2.2.1 _ hw) (z_castX F hx) hcell hv hcl k9
  simp [covers, hc.1, hc.2]
/-- by the second one, the first is of the other class -/
theorem VX_catch2 {x x2 : Int} {a b h ct a2 b2 h2' ct2 : Nat} {hr : List (Nat × Nat × Nat × Nat)} (hh : M.2.2.2.2 = (a2, b2, h2', ct2) :: (a, b, h, ct) :: hr) (hx : (x = 0 ∧ x2 = 1) ∨ (x = 1 ∧ x2 = 0)) (hw : Cond.classLink M.1.cls ct (z_xn x) ∈ z_tbl) (hw2 : Cond.classLink M.1.cls ct2 (z_xn x2) ∈ z_tbl) (hc : a ≤ pc ∧ pc < b) (h0 : ct ≠ 0) (h02 : ct2 ≠ 0)
    (kk : ∀ q : Nat, V l K M fr lo bc bs h lv [vA q] n τ σ Q) : VX l K M fr lo bc bs pc lv st n τ σ x Q := by
  intro p e R s m args below meth cd H locs cells slots ls ce q F h1 h2 h3 h4 hR hS hl hg hG hcell hv hcl
  have hX := F.2.2.2.2.2.2.2.2.2.2.2.2.2.2.2
  have k9 := kk q p e R s m args below meth cd H locs cells slots ls F h1 h2 h3 h4 hR hS hl hg (z_gc (z_gO (by decide) (by decide)) z_gs0)
  rw [List.map_cons, z_cA] at k9
  refine vx_catch (E := z_xn x) (name := z_xn x) F.2.2.2.2.2.1 [⟨a2, b2, h2', ct2⟩] ⟨a, b, h, ct⟩ (tableOf hr) (by rw [F.2.2.2.2.2.2.2.1, hh]; rfl) (fun z hz => ?_) ?_ h0 (F.2.2.2.2.2.2.1 _ hw) (z_castX F (by rcases hx with ⟨g, -⟩ | ⟨g, -⟩ <;> omega)) hcell hv hcl k9
  · rw [List.mem_singleton.mp hz]
    refine Or.inr ⟨h02, z_xn x2, F.2.2.2.2.2.2.1 _ hw2, ?_⟩
    rcases hx with ⟨g1, g2⟩ | ⟨g1, g2⟩ <;> subst g1 <;> subst g2
    · exact hX.2.2.1
    · exact hX.2.2.2.1
  · simp [covers, hc.1, hc.2]
theorem V_mmax {idx : Nat} {x y z : Int} (hd : decode M.2.1 pc = .ok (.invokestatic idx, 3)) (hw : Cond.methodLink M.1.cls idx Lib.Math.max.name ∈ z_tbl) (w1 : Cond.static Lib.Math.max.name ∈ z_tbl) (w2 : Cond.initialized "java/lang/Math" ∈ z_tbl) (w3 : Cond.code Lib.Math.max.name Lib.Math.max.code 2 (some .int) ∈ z_tbl) (hf : 1 ≤ fr) (hlo : z_wt st + 13 ≤ lo) (hz : (if x < y then y else x) = z)
    (kk : V l K M fr lo bc bs (pc + 3) lv (vI z :: st) n τ σ Q) : V l K M fr lo bc bs pc lv (vI y :: vI x :: st) n τ σ Q := by
  intro p e R s m args below meth cd H locs cells slots ls F h1 h2 h3 h4 hR hS hl hg hG
  have hts := F.2.2.2.2.2.2.1
  have hy := z_hI hG
  have hx := z_hI (z_gt hG)
  subst hz
  have kk := kk p e R s m args below meth cd H locs cells slots ls F h1 h2 h3 h4 hR hS hl hg (z_gc (z_gI (by split <;> assumption)) (z_gt (z_gt hG)))
  refine va_mmax F.1 F.2.1 (F.2.2.1.trans hl.1.symm) F.2.2.2.2.2.1 (hts _ hw) (hts _ w1) (hts _ w2) (hts _ w3) (by omega) (by rw [z_wt_eq]; omega) (by omega) (by omega) hd ?_
  have e9 : (if Int32.ofInt x < Int32.ofInt y then Int32.ofInt y else Int32.ofInt x) = Int32.ofInt (if x < y then y else x) := by
    by_cases g : x < y
    · rw [if_pos g, if_pos ((z_lt hx hy).mpr g)]
    · rw [if_neg g, if_neg (fun q => g ((z_lt hx hy).mp q))]
  rw [e9]
  exact kk
theorem V_mmin {idx : Nat} {x y z : Int} (hd : decode M.2.1 pc = .ok (.invokestatic idx, 3)) (hw : Cond.methodLink M.1.cls idx Lib.Math.min.name ∈ z_tbl) (w1 : Cond.static Lib.Math.min.name ∈ z_tbl) (w2 : Cond.initialized "java/lang/Math" ∈ z_tbl) (w3 : Cond.code Lib.Math.min.name Lib.Math.min.code 2 (some .int) ∈ z_tbl) (hf : 1 ≤ fr) (hlo : z_wt st + 13 ≤ lo) (hz : (if y < x then y else x) = z)
    (kk : V l K M fr lo bc bs (pc + 3) lv (vI z :: st) n τ σ Q) : V l K M fr lo bc bs pc lv (vI y :: vI x :: st) n τ σ Q := by
  intro p e R s m args below meth cd H locs cells slots ls F h1 h2 h3 h4 hR hS hl hg hG
  have hts := F.2.2.2.2.2.2.1
  have hy := z_hI hG
  have hx := z_hI (z_gt hG)
  subst hz
  have kk := kk p e R s m args below meth cd H locs cells slots ls F h1 h2 h3 h4 hR hS hl hg (z_gc (z_gI (by split <;> assumption)) (z_gt (z_gt hG)))
  refine va_mmin F.1 F.2.1 (F.2.2.1.trans hl.1.symm) F.2.2.2.2.2.1 (hts _ hw) (hts _ w1) (hts _ w2) (hts _ w3) (by omega) (by rw [z_wt_eq]; omega) (by omega) (by omega) hd ?_
  have e9 : (if Int32.ofInt y < Int32.ofInt x then Int32.ofInt y else Int32.ofInt x) = Int32.ofInt (if y < x then y else x) := by
    by_cases g : y < x
    · rw [if_pos g, if_pos ((z_lt hy hx).mpr g)]
    · rw [if_neg g, if_neg (fun q => g ((z_lt hy hx).mp q))]
  first
    | (rw [e9]; exact kk)
    | (have e8 : (if Int32.ofInt x < Int32.ofInt y then Int32.ofInt x else Int32.ofInt y) = Int32.ofInt (if y < x then y else x) := by
         by_cases g : x < y
         · rw [if_neg (show ¬ y < x by omega), if_pos ((z_lt hx hy).mpr g)]
         · rw [if_neg (fun q => g ((z_lt hx hy).mp q))]
           by_cases g2 : y < x
           · rw [if_pos g2]
           · rw [if_neg g2, show x = y by omega]
       rw [e8]; exact kk)
end ZX
