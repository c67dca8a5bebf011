/-! THE LAYER, 3: the rules of V, an instruction each (by program) -/
theorem z_mx32 : Int32.maxValue.toInt = 2147483647 := by decide +kernel
theorem z_mn32 : Int32.minValue.toInt = -2147483648 := by decide +kernel
theorem z_mx8 : Int8.maxValue.toInt = 127 := by decide +kernel
theorem z_mn8 : Int8.minValue.toInt = -128 := by decide +kernel
theorem z_mx16 : Int16.maxValue.toInt = 32767 := by decide +kernel
theorem z_mn16 : Int16.minValue.toInt = -32768 := by decide +kernel
section ZV
variable {l : Launch} {K : z_K} {M : z_Me} {fr lo bc bs pc : Nat} {lv st : List z_V} {n : Nat} {τ σ : z_M} {Q : z_Q}
theorem V_iconst {x : Int} (hd : decode M.2.1 pc = .ok (.iconst x, 1)) (hx : z_I x := by decide) (k : V l K M fr lo bc bs (pc + 1) lv (vI x :: st) n τ σ Q) : V l K M fr lo bc bs (pc) lv (st) n τ σ Q := by
  intro p e R s m args below meth c H locs cells slots ls F h1 h2 h3 h4 hR hS hl hg hG
  exact lv_iconst F.1 F.2.1 hd rfl (k p e R s m args below meth c H locs cells slots ls F h1 h2 h3 h4 hR hS hl hg (z_gc (z_gI hx) hG))
theorem V_bipush {x : Int} (hd : decode M.2.1 pc = .ok (.bipush x, 2)) (hx : -128 ≤ x ∧ x ≤ 127 := by decide) (k : V l K M fr lo bc bs (pc + 2) lv (vI x :: st) n τ σ Q) : V l K M fr lo bc bs (pc) lv (st) n τ σ Q := by
  intro p e R s m args below meth c H locs cells slots ls F h1 h2 h3 h4 hR hS hl hg hG
  exact lv_bipush F.1 F.2.1 hd (Int8.toInt32_ofInt (by rw [z_mn8]; exact hx.1) (by rw [z_mx8]; exact hx.2)) (k p e R s m args below meth c H locs cells slots ls F h1 h2 h3 h4 hR hS hl hg (z_gc (z_gI ⟨by omega, by omega⟩) hG))
theorem V_sipush {x : Int} (hd : decode M.2.1 pc = .ok (.sipush x, 3)) (hx : -32768 ≤ x ∧ x ≤ 32767 := by decide) (k : V l K M fr lo bc bs (pc + 3) lv (vI x :: st) n τ σ Q) : V l K M fr lo bc bs (pc) lv (st) n τ σ Q := by
  intro p e R s m args below meth c H locs cells slots ls F h1 h2 h3 h4 hR hS hl hg hG
  exact lv_sipush F.1 F.2.1 hd (Int16.toInt32_ofInt (by rw [z_mn16]; exact hx.1) (by rw [z_mx16]; exact hx.2)) (k p e R s m args below meth c H locs cells slots ls F h1 h2 h3 h4 hR hS hl hg (z_gc (z_gI ⟨by omega, by omega⟩) hG))
theorem V_lconst {x : Fin 2} {y : Int} (hd : decode M.2.1 pc = .ok (.lconst x, 1)) (hx : Int64.ofNat (x : Nat) = Int64.ofInt y := by decide) (hy : z_L y := by decide) (k : V l K M fr lo bc bs (pc + 1) lv (vL y :: st) n τ σ Q) : V l K M fr lo bc bs (pc) lv (st) n τ σ Q := by
  intro p e R s m args below meth c H locs cells slots ls F h1 h2 h3 h4 hR hS hl hg hG
  exact lv_lconst F.1 F.2.1 hd hx (k p e R s m args below meth c H locs cells slots ls F h1 h2 h3 h4 hR hS hl hg (z_gc (z_gL hy) hG))
theorem V_ldc {i : Nat} {x : Int} (hd : decode M.2.1 pc = .ok (.ldc i, 2)) (hw : Cond.constant M.1.cls i (Int32.ofInt x) ∈ z_tbl) (hx : z_I x := by decide) (k : V l K M fr lo bc bs (pc + 2) lv (vI x :: st) n τ σ Q) : V l K M fr lo bc bs (pc) lv (st) n τ σ Q := by
  intro p e R s m args below meth c H locs cells slots ls F h1 h2 h3 h4 hR hS hl hg hG
  exact lv_ldc F.1 F.2.1 F.2.2.2.2.2.1 (F.2.2.2.2.2.2.1 _ hw) hd (k p e R s m args below meth c H locs cells slots ls F h1 h2 h3 h4 hR hS hl hg (z_gc (z_gI hx) hG))
theorem V_ldcw {i : Nat} {x : Int} (hd : decode M.2.1 pc = .ok (.ldc_w i, 3)) (hw : Cond.constant M.1.cls i (Int32.ofInt x) ∈ z_tbl) (hx : z_I x := by decide) (k : V l K M fr lo bc bs (pc + 3) lv (vI x :: st) n τ σ Q) : V l K M fr lo bc bs (pc) lv (st) n τ σ Q := by
  intro p e R s m args below meth c H locs cells slots ls F h1 h2 h3 h4 hR hS hl hg hG
  exact lv_ldcw F.1 F.2.1 F.2.2.2.2.2.1 (F.2.2.2.2.2.2.1 _ hw) hd (k p e R s m args below meth c H locs cells slots ls F h1 h2 h3 h4 hR hS hl hg (z_gc (z_gI hx) hG))
theorem V_ldc2 {i : Nat} {x : Int} (hd : decode M.2.1 pc = .ok (.ldc2_w i, 3)) (hw : Cond.constantLong M.1.cls i (Int64.ofInt x) ∈ z_tbl) (hx : z_L x := by decide) (k : V l K M fr lo bc bs (pc + 3) lv (vL x :: st) n τ σ Q) : V l K M fr lo bc bs (pc) lv (st) n τ σ Q := by
  intro p e R s m args below meth c H locs cells slots ls F h1 h2 h3 h4 hR hS hl hg hG
  exact lv_ldc2 F.1 F.2.1 F.2.2.2.2.2.1 (F.2.2.2.2.2.2.1 _ hw) hd (k p e R s m args below meth c H locs cells slots ls F h1 h2 h3 h4 hR hS hl hg (z_gc (z_gL hx) hG))
theorem V_null  (hd : decode M.2.1 pc = .ok (.aconst_null, 1))  (k : V l K M fr lo bc bs (pc + 1) lv (vR 0 :: st) n τ σ Q) : V l K M fr lo bc bs (pc) lv (st) n τ σ Q := by
  intro p e R s m args below meth c H locs cells slots ls F h1 h2 h3 h4 hR hS hl hg hG
  exact lv_null F.1 F.2.1 hd (k p e R s m args below meth c H locs cells slots ls F h1 h2 h3 h4 hR hS hl hg (z_gc (z_gR 0) hG))
theorem V_iload_n {i : Fin 4} {x : Int} (hd : decode M.2.1 pc = .ok (.iload_n i, 1)) (hv : lv[(i : Nat)]? = some (vI x)) (k : V l K M fr lo bc bs (pc + 1) lv (vI x :: st) n τ σ Q) : V l K M fr lo bc bs (pc) lv (st) n τ σ Q := by
  intro p e R s m args below meth c H locs cells slots ls F h1 h2 h3 h4 hR hS hl hg hG
  exact lv_iload_n F.1 F.2.1 hd rfl (z_get hl hv (by show 0 ≠ 9; decide)) (k p e R s m args below meth c H locs cells slots ls F h1 h2 h3 h4 hR hS hl hg (z_gc (z_gat hg hv) hG))
theorem V_iload {i : Nat} {x : Int} (hd : decode M.2.1 pc = .ok (.iload i, 2)) (hv : lv[i]? = some (vI x)) (k : V l K M fr lo bc bs (pc + 2) lv (vI x :: st) n τ σ Q) : V l K M fr lo bc bs (pc) lv (st) n τ σ Q := by
  intro p e R s m args below meth c H locs cells slots ls F h1 h2 h3 h4 hR hS hl hg hG
  exact lv_iload F.1 F.2.1 hd (z_get hl hv (by show 0 ≠ 9; decide)) (k p e R s m args below meth c H locs cells slots ls F h1 h2 h3 h4 hR hS hl hg (z_gc (z_gat hg hv) hG))
theorem V_lload_n {i : Fin 4} {x : Int} (hd : decode M.2.1 pc = .ok (.lload_n i, 1)) (hv : lv[(i : Nat)]? = some (vL x)) (k : V l K M fr lo bc bs (pc + 1) lv (vL x :: st) n τ σ Q) : V l K M fr lo bc bs (pc) lv (st) n τ σ Q := by
  intro p e R s m args below meth c H locs cells slots ls F h1 h2 h3 h4 hR hS hl hg hG
  exact lv_lload_n F.1 F.2.1 hd rfl (z_get hl hv (by show 1 ≠ 9; decide)) (k p e R s m args below meth c H locs cells slots ls F h1 h2 h3 h4 hR hS hl hg (z_gc (z_gat hg hv) hG))
theorem V_lload {i : Nat} {x : Int} (hd : decode M.2.1 pc = .ok (.lload i, 2)) (hv : lv[i]? = some (vL x)) (k : V l K M fr lo bc bs (pc + 2) lv (vL x :: st) n τ σ Q) : V l K M fr lo bc bs (pc) lv (st) n τ σ Q := by
  intro p e R s m args below meth c H locs cells slots ls F h1 h2 h3 h4 hR hS hl hg hG
  exact lv_lload F.1 F.2.1 hd (z_get hl hv (by show 1 ≠ 9; decide)) (k p e R s m args below meth c H locs cells slots ls F h1 h2 h3 h4 hR hS hl hg (z_gc (z_gat hg hv) hG))
def z_isR (v : z_V) : Prop := v.1 = 2 ∨ v.1 = 3 ∨ v.1 = 4
theorem z_isR_or {K : z_K} {v : z_V} (h : z_isR v) : z_c K v = .null ∨ ∃ a, z_c K v = .ref a := by
  obtain ⟨t, x⟩ := v
  rcases h with h | h | h
  · have e : t = 2 := h
    subst e
    exact z_rv_or K x
  · have e : t = 3 := h
    subst e
    exact Or.inr ⟨_, rfl⟩
  · have e : t = 4 := h
    subst e
    exact Or.inr ⟨_, rfl⟩
theorem z_isR9 {v : z_V} (h : z_isR v) : v.1 ≠ 9 := by
  rcases h with h | h | h <;> rw [h] <;> decide
theorem V_aload_n {i : Fin 4} {v : z_V} (hd : decode M.2.1 pc = .ok (.aload_n i, 1)) (hv : lv[(i : Nat)]? = some v) (k : V l K M fr lo bc bs (pc + 1) lv (v :: st) n τ σ Q) (hr : z_isR v := by decide) : V l K M fr lo bc bs (pc) lv (st) n τ σ Q := by
  intro p e R s m args below meth c H locs cells slots ls F h1 h2 h3 h4 hR hS hl hg hG
  have q := z_get hl hv (z_isR9 hr)
  have kk := (k p e R s m args below meth c H locs cells slots ls F h1 h2 h3 h4 hR hS hl hg (z_gc (z_gat hg hv) hG))
  rw [List.map_cons] at kk
  rcases z_isR_or (K := K) hr with e9 | ⟨a, e9⟩
  · rw [e9] at q kk
    exact lv_aload_nN F.1 F.2.1 hd rfl q kk
  · rw [e9] at q kk
    exact lv_aload_n F.1 F.2.1 hd rfl q kk
theorem V_aload {i : Nat} {v : z_V} (hd : decode M.2.1 pc = .ok (.aload i, 2)) (hv : lv[i]? = some v) (k : V l K M fr lo bc bs (pc + 2) lv (v :: st) n τ σ Q) (hr : z_isR v := by decide) : V l K M fr lo bc bs (pc) lv (st) n τ σ Q := by
  intro p e R s m args below meth c H locs cells slots ls F h1 h2 h3 h4 hR hS hl hg hG
  have q := z_get hl hv (z_isR9 hr)
  have kk := (k p e R s m args below meth c H locs cells slots ls F h1 h2 h3 h4 hR hS hl hg (z_gc (z_gat hg hv) hG))
  rw [List.map_cons] at kk
  rcases z_isR_or (K := K) hr with e9 | ⟨a, e9⟩
  · rw [e9] at q kk
    exact lv_aloadN F.1 F.2.1 hd  q kk
  · rw [e9] at q kk
    exact lv_aload F.1 F.2.1 hd  q kk
theorem V_istore_n {i : Fin 4} {x : Int} {lv' : List z_V} (hd : decode M.2.1 pc = .ok (.istore_n i, 1)) (hs : z_set lv (i : Nat) (vI x) = lv') (k : V l K M fr lo bc bs (pc + 1) lv' (st) n τ σ Q) (hi : (i : Nat) < M.2.2.1 := by decide) : V l K M fr lo bc bs (pc) lv (vI x :: st) n τ σ Q := by
  intro p e R s m args below meth c H locs cells slots ls F h1 h2 h3 h4 hR hS hl hg hG
  subst hs
  exact lv_istore_n (lv' := _) F.1 F.2.1 hd rfl hl hi rfl (fun ls9 h9 => k p e R s m args below meth c H locs cells slots ls9 F h1 h2 h3 h4 hR hS (z_st1 (v := vI x) h9) (z_gset hg (z_gh hG)) (z_gt hG))
theorem V_istore {i : Nat} {x : Int} {lv' : List z_V} (hd : decode M.2.1 pc = .ok (.istore i, 2)) (hs : z_set lv i (vI x) = lv') (k : V l K M fr lo bc bs (pc + 2) lv' (st) n τ σ Q) (hi : i < M.2.2.1 := by decide) : V l K M fr lo bc bs (pc) lv (vI x :: st) n τ σ Q := by
  intro p e R s m args below meth c H locs cells slots ls F h1 h2 h3 h4 hR hS hl hg hG
  subst hs
  exact lv_istore (lv' := _) F.1 F.2.1 hd  hl hi rfl (fun ls9 h9 => k p e R s m args below meth c H locs cells slots ls9 F h1 h2 h3 h4 hR hS (z_st1 (v := vI x) h9) (z_gset hg (z_gh hG)) (z_gt hG))
theorem V_lstore_n {i : Fin 4} {x : Int} {lv' : List z_V} (hd : decode M.2.1 pc = .ok (.lstore_n i, 1)) (hs : z_set2 lv (i : Nat) (vL x) = lv') (k : V l K M fr lo bc bs (pc + 1) lv' (st) n τ σ Q) (hi : (i : Nat) + 1 < M.2.2.1 := by decide) : V l K M fr lo bc bs (pc) lv (vL x :: st) n τ σ Q := by
  intro p e R s m args below meth c H locs cells slots ls F h1 h2 h3 h4 hR hS hl hg hG
  subst hs
  exact lv_lstore_n (lv' := _) F.1 F.2.1 hd rfl hl hi rfl (fun ls9 h9 => k p e R s m args below meth c H locs cells slots ls9 F h1 h2 h3 h4 hR hS (z_st2 (v := vL x) h9) (z_gset2 hg (z_gh hG)) (z_gt hG))
theorem V_lstore {i : Nat} {x : Int} {lv' : List z_V} (hd : decode M.2.1 pc = .ok (.lstore i, 2)) (hs : z_set2 lv i (vL x) = lv') (k : V l K M fr lo bc bs (pc + 2) lv' (st) n τ σ Q) (hi : i + 1 < M.2.2.1 := by decide) : V l K M fr lo bc bs (pc) lv (vL x :: st) n τ σ Q := by
  intro p e R s m args below meth c H locs cells slots ls F h1 h2 h3 h4 hR hS hl hg hG
  subst hs
  exact lv_lstore (lv' := _) F.1 F.2.1 hd  hl hi rfl (fun ls9 h9 => k p e R s m args below meth c H locs cells slots ls9 F h1 h2 h3 h4 hR hS (z_st2 (v := vL x) h9) (z_gset2 hg (z_gh hG)) (z_gt hG))
theorem V_astore_n {i : Fin 4} {v : z_V} {lv' : List z_V} (hd : decode M.2.1 pc = .ok (.astore_n i, 1)) (hs : z_set lv (i : Nat) v = lv') (k : V l K M fr lo bc bs (pc + 1) lv' (st) n τ σ Q) (hr : z_isR v := by decide) (hi : (i : Nat) < M.2.2.1 := by decide) : V l K M fr lo bc bs (pc) lv (v :: st) n τ σ Q := by
  intro p e R s m args below meth c H locs cells slots ls F h1 h2 h3 h4 hR hS hl hg hG
  subst hs
  have kk := fun ls9 h9 => k p e R s m args below meth c H locs cells slots ls9 F h1 h2 h3 h4 hR hS (z_st1 (v := v) h9) (z_gset hg (z_gh hG)) (z_gt hG)
  rw [List.map_cons]
  rcases z_isR_or (K := K) hr with e9 | ⟨a, e9⟩
  · rw [e9] at kk ⊢
    exact lv_astore_nN (lv' := _) F.1 F.2.1 hd rfl hl hi rfl kk
  · rw [e9] at kk ⊢
    exact lv_astore_n (lv' := _) F.1 F.2.1 hd rfl hl hi rfl kk
theorem V_astore {i : Nat} {v : z_V} {lv' : List z_V} (hd : decode M.2.1 pc = .ok (.astore i, 2)) (hs : z_set lv i v = lv') (k : V l K M fr lo bc bs (pc + 2) lv' (st) n τ σ Q) (hr : z_isR v := by decide) (hi : i < M.2.2.1 := by decide) : V l K M fr lo bc bs (pc) lv (v :: st) n τ σ Q := by
  intro p e R s m args below meth c H locs cells slots ls F h1 h2 h3 h4 hR hS hl hg hG
  subst hs
  have kk := fun ls9 h9 => k p e R s m args below meth c H locs cells slots ls9 F h1 h2 h3 h4 hR hS (z_st1 (v := v) h9) (z_gset hg (z_gh hG)) (z_gt hG)
  rw [List.map_cons]
  rcases z_isR_or (K := K) hr with e9 | ⟨a, e9⟩
  · rw [e9] at kk ⊢
    exact lv_astoreN (lv' := _) F.1 F.2.1 hd  hl hi rfl kk
  · rw [e9] at kk ⊢
    exact lv_astore (lv' := _) F.1 F.2.1 hd  hl hi rfl kk
theorem V_iinc {i : Nat} {d x y : Int} {lv' : List z_V} (hd : decode M.2.1 pc = .ok (.iinc i d, 3)) (hv : lv[i]? = some (vI x)) (hy : z_w (x + d) = y) (hs : z_set lv i (vI y) = lv') (k : V l K M fr lo bc bs (pc + 3) lv' (st) n τ σ Q) (hi : i < M.2.2.1 := by decide) : V l K M fr lo bc bs (pc) lv (st) n τ σ Q := by
  intro p e R s m args below meth c H locs cells slots ls F h1 h2 h3 h4 hR hS hl hg hG
  subst hs
  subst hy
  have hm := z_al_mem (K := K) lv 0 i _ hv (by show 0 ≠ 9; decide)
  obtain ⟨k9, hk9⟩ := List.getElem?_of_mem hm
  rw [Nat.zero_add] at hk9
  exact lv_iinc (k := k9) (lv' := _) F.1 F.2.1 hd hl hk9 (by rw [← Int32.ofInt_add, ← z_ofw]) hi rfl (fun ls9 h9 => k p e R s m args below meth c H locs cells slots ls9 F h1 h2 h3 h4 hR hS (z_st1 (v := vI (z_w (x + d))) h9) (z_gset hg (z_gI (z_wI _))) hG)
theorem V_iadd {x y z : Int} (hd : decode M.2.1 pc = .ok (.iadd, 1))  (hz : z_w (x + y) = z) (k : V l K M fr lo bc bs (pc + 1) lv (vI z :: st) n τ σ Q) : V l K M fr lo bc bs (pc) lv (vI y :: vI x :: st) n τ σ Q := by
  intro p e R s m args below meth c H locs cells slots ls F h1 h2 h3 h4 hR hS hl hg hG
  subst hz
  have e9 : Int32.ofInt x + Int32.ofInt y = Int32.ofInt (z_w (x + y)) := by rw [z_ofw, Int32.ofInt_add]
  exact lv_iadd F.1 F.2.1 hd  (by rw [e9]; exact (k p e R s m args below meth c H locs cells slots ls F h1 h2 h3 h4 hR hS hl hg (z_gc (z_gI (z_wI _)) (z_gt (z_gt hG)))))
theorem V_isub {x y z : Int} (hd : decode M.2.1 pc = .ok (.isub, 1))  (hz : z_w (x - y) = z) (k : V l K M fr lo bc bs (pc + 1) lv (vI z :: st) n τ σ Q) : V l K M fr lo bc bs (pc) lv (vI y :: vI x :: st) n τ σ Q := by
  intro p e R s m args below meth c H locs cells slots ls F h1 h2 h3 h4 hR hS hl hg hG
  subst hz
  have e9 : Int32.ofInt x - Int32.ofInt y = Int32.ofInt (z_w (x - y)) := by rw [z_ofw, Int32.ofInt_sub]
  exact lv_isub F.1 F.2.1 hd  (by rw [e9]; exact (k p e R s m args below meth c H locs cells slots ls F h1 h2 h3 h4 hR hS hl hg (z_gc (z_gI (z_wI _)) (z_gt (z_gt hG)))))
theorem V_imul {x y z : Int} (hd : decode M.2.1 pc = .ok (.imul, 1))  (hz : z_w (x * y) = z) (k : V l K M fr lo bc bs (pc + 1) lv (vI z :: st) n τ σ Q) : V l K M fr lo bc bs (pc) lv (vI y :: vI x :: st) n τ σ Q := by
  intro p e R s m args below meth c H locs cells slots ls F h1 h2 h3 h4 hR hS hl hg hG
  subst hz
  have e9 : Int32.ofInt x * Int32.ofInt y = Int32.ofInt (z_w (x * y)) := by rw [z_ofw, Int32.ofInt_mul]
  exact lv_imul F.1 F.2.1 hd  (by rw [e9]; exact (k p e R s m args below meth c H locs cells slots ls F h1 h2 h3 h4 hR hS hl hg (z_gc (z_gI (z_wI _)) (z_gt (z_gt hG)))))
theorem V_idiv {x y z : Int} (hd : decode M.2.1 pc = .ok (.idiv, 1)) (h0 : y ≠ 0) (hz : z_w (x.tdiv y) = z) (k : V l K M fr lo bc bs (pc + 1) lv (vI z :: st) n τ σ Q) : V l K M fr lo bc bs (pc) lv (vI y :: vI x :: st) n τ σ Q := by
  intro p e R s m args below meth c H locs cells slots ls F h1 h2 h3 h4 hR hS hl hg hG
  subst hz
  have e9 : Int32.ofInt x / Int32.ofInt y = Int32.ofInt (z_w (x.tdiv y)) := by rw [z_ofw]; exact (Int32.ofInt_tdiv (by rw [z_mn32]; exact (z_hI (z_gt hG)).1) (by rw [z_mx32]; exact (z_hI (z_gt hG)).2) (by rw [z_mn32]; exact (z_hI hG).1) (by rw [z_mx32]; exact (z_hI hG).2)).symm
  exact lv_idiv F.1 F.2.1 hd (fun q9 => h0 ((z_eq (z_hI hG) z_I0).mp q9)) (by rw [e9]; exact (k p e R s m args below meth c H locs cells slots ls F h1 h2 h3 h4 hR hS hl hg (z_gc (z_gI (z_wI _)) (z_gt (z_gt hG)))))
theorem V_irem {x y z : Int} (hd : decode M.2.1 pc = .ok (.irem, 1)) (h0 : y ≠ 0) (hz : x.tmod y = z) (k : V l K M fr lo bc bs (pc + 1) lv (vI z :: st) n τ σ Q) : V l K M fr lo bc bs (pc) lv (vI y :: vI x :: st) n τ σ Q := by
  intro p e R s m args below meth c H locs cells slots ls F h1 h2 h3 h4 hR hS hl hg hG
  subst hz
  have e9 : Int32.ofInt x - Int32.ofInt x / Int32.ofInt y * Int32.ofInt y = Int32.ofInt (x.tmod y) := by rw [← z_oi (Int32.ofInt x - Int32.ofInt x / Int32.ofInt y * Int32.ofInt y), rem_toInt, z_toi (z_hI (z_gt hG)), z_toi (z_hI hG)]
  exact lv_irem F.1 F.2.1 hd (fun q9 => h0 ((z_eq (z_hI hG) z_I0).mp q9)) (by rw [e9]; exact (k p e R s m args below meth c H locs cells slots ls F h1 h2 h3 h4 hR hS hl hg (z_gc (z_gI (by have h9 := z_Ii (Int32.ofInt x - Int32.ofInt x / Int32.ofInt y * Int32.ofInt y); rw [rem_toInt, z_toi (z_hI (z_gt hG)), z_toi (z_hI hG)] at h9; exact h9)) (z_gt (z_gt hG)))))
theorem V_iand {x y z : Int} (hd : decode M.2.1 pc = .ok (.iand, 1))  (hz : (Int32.ofInt x &&& Int32.ofInt y).toInt = z) (k : V l K M fr lo bc bs (pc + 1) lv (vI z :: st) n τ σ Q) : V l K M fr lo bc bs (pc) lv (vI y :: vI x :: st) n τ σ Q := by
  intro p e R s m args below meth c H locs cells slots ls F h1 h2 h3 h4 hR hS hl hg hG
  subst hz
  have e9 : Int32.ofInt x &&& Int32.ofInt y = Int32.ofInt ((Int32.ofInt x &&& Int32.ofInt y).toInt) := by rw [z_oi]
  exact lv_iand F.1 F.2.1 hd  (by rw [e9]; exact (k p e R s m args below meth c H locs cells slots ls F h1 h2 h3 h4 hR hS hl hg (z_gc (z_gI (z_Ii _)) (z_gt (z_gt hG)))))
theorem V_ior {x y z : Int} (hd : decode M.2.1 pc = .ok (.ior, 1))  (hz : (Int32.ofInt x ||| Int32.ofInt y).toInt = z) (k : V l K M fr lo bc bs (pc + 1) lv (vI z :: st) n τ σ Q) : V l K M fr lo bc bs (pc) lv (vI y :: vI x :: st) n τ σ Q := by
  intro p e R s m args below meth c H locs cells slots ls F h1 h2 h3 h4 hR hS hl hg hG
  subst hz
  have e9 : Int32.ofInt x ||| Int32.ofInt y = Int32.ofInt ((Int32.ofInt x ||| Int32.ofInt y).toInt) := by rw [z_oi]
  exact lv_ior F.1 F.2.1 hd  (by rw [e9]; exact (k p e R s m args below meth c H locs cells slots ls F h1 h2 h3 h4 hR hS hl hg (z_gc (z_gI (z_Ii _)) (z_gt (z_gt hG)))))
theorem V_ixor {x y z : Int} (hd : decode M.2.1 pc = .ok (.ixor, 1))  (hz : (Int32.ofInt x ^^^ Int32.ofInt y).toInt = z) (k : V l K M fr lo bc bs (pc + 1) lv (vI z :: st) n τ σ Q) : V l K M fr lo bc bs (pc) lv (vI y :: vI x :: st) n τ σ Q := by
  intro p e R s m args below meth c H locs cells slots ls F h1 h2 h3 h4 hR hS hl hg hG
  subst hz
  have e9 : Int32.ofInt x ^^^ Int32.ofInt y = Int32.ofInt ((Int32.ofInt x ^^^ Int32.ofInt y).toInt) := by rw [z_oi]
  exact lv_ixor F.1 F.2.1 hd  (by rw [e9]; exact (k p e R s m args below meth c H locs cells slots ls F h1 h2 h3 h4 hR hS hl hg (z_gc (z_gI (z_Ii _)) (z_gt (z_gt hG)))))
theorem V_ishl {x y z : Int} (hd : decode M.2.1 pc = .ok (.ishl, 1))  (hz : (Int32.ofInt x <<< (Int32.ofInt y &&& 31)).toInt = z) (k : V l K M fr lo bc bs (pc + 1) lv (vI z :: st) n τ σ Q) : V l K M fr lo bc bs (pc) lv (vI y :: vI x :: st) n τ σ Q := by
  intro p e R s m args below meth c H locs cells slots ls F h1 h2 h3 h4 hR hS hl hg hG
  subst hz
  have e9 : Int32.ofInt x <<< (Int32.ofInt y &&& 31) = Int32.ofInt ((Int32.ofInt x <<< (Int32.ofInt y &&& 31)).toInt) := by rw [z_oi]
  exact lv_ishl F.1 F.2.1 hd  (by rw [e9]; exact (k p e R s m args below meth c H locs cells slots ls F h1 h2 h3 h4 hR hS hl hg (z_gc (z_gI (z_Ii _)) (z_gt (z_gt hG)))))
theorem V_ishr {x y z : Int} (hd : decode M.2.1 pc = .ok (.ishr, 1))  (hz : (Int32.ofInt x >>> (Int32.ofInt y &&& 31)).toInt = z) (k : V l K M fr lo bc bs (pc + 1) lv (vI z :: st) n τ σ Q) : V l K M fr lo bc bs (pc) lv (vI y :: vI x :: st) n τ σ Q := by
  intro p e R s m args below meth c H locs cells slots ls F h1 h2 h3 h4 hR hS hl hg hG
  subst hz
  have e9 : Int32.ofInt x >>> (Int32.ofInt y &&& 31) = Int32.ofInt ((Int32.ofInt x >>> (Int32.ofInt y &&& 31)).toInt) := by rw [z_oi]
  exact lv_ishr F.1 F.2.1 hd  (by rw [e9]; exact (k p e R s m args below meth c H locs cells slots ls F h1 h2 h3 h4 hR hS hl hg (z_gc (z_gI (z_Ii _)) (z_gt (z_gt hG)))))
theorem V_iushr {x y z : Int} (hd : decode M.2.1 pc = .ok (.iushr, 1)) (hz : (((Int32.ofInt x).toUInt32 >>> ((Int32.ofInt y).toUInt32 &&& Int32.toUInt32 31)).toInt32).toInt = z) (k : V l K M fr lo bc bs (pc + 1) lv (vI z :: st) n τ σ Q) : V l K M fr lo bc bs (pc) lv (vI y :: vI x :: st) n τ σ Q := by
  intro p e R s m args below meth c H locs cells slots ls F h1 h2 h3 h4 hR hS hl hg hG
  subst hz
  exact lv_iushr F.1 F.2.1 hd (z_oi _).symm (k p e R s m args below meth c H locs cells slots ls F h1 h2 h3 h4 hR hS hl hg (z_gc (z_gI (z_Ii _)) (z_gt (z_gt hG))))
theorem V_ladd {x y z : Int} (hd : decode M.2.1 pc = .ok (.ladd, 1))  (hz : z_wl (x + y) = z) (k : V l K M fr lo bc bs (pc + 1) lv (vL z :: st) n τ σ Q) : V l K M fr lo bc bs (pc) lv (vL y :: vL x :: st) n τ σ Q := by
  intro p e R s m args below meth c H locs cells slots ls F h1 h2 h3 h4 hR hS hl hg hG
  subst hz
  have e9 : Int64.ofInt x + Int64.ofInt y = Int64.ofInt (z_wl (x + y)) := by rw [z_ofwl, Int64.ofInt_add]
  exact lv_ladd F.1 F.2.1 hd  (by rw [e9]; exact (k p e R s m args below meth c H locs cells slots ls F h1 h2 h3 h4 hR hS hl hg (z_gc (z_gL (z_wlL _)) (z_gt (z_gt hG)))))
theorem V_lsub {x y z : Int} (hd : decode M.2.1 pc = .ok (.lsub, 1))  (hz : z_wl (x - y) = z) (k : V l K M fr lo bc bs (pc + 1) lv (vL z :: st) n τ σ Q) : V l K M fr lo bc bs (pc) lv (vL y :: vL x :: st) n τ σ Q := by
  intro p e R s m args below meth c H locs cells slots ls F h1 h2 h3 h4 hR hS hl hg hG
  subst hz
  have e9 : Int64.ofInt x - Int64.ofInt y = Int64.ofInt (z_wl (x - y)) := by rw [z_ofwl, Int64.ofInt_sub]
  exact lv_lsub F.1 F.2.1 hd  (by rw [e9]; exact (k p e R s m args below meth c H locs cells slots ls F h1 h2 h3 h4 hR hS hl hg (z_gc (z_gL (z_wlL _)) (z_gt (z_gt hG)))))
theorem V_lmul {x y z : Int} (hd : decode M.2.1 pc = .ok (.lmul, 1))  (hz : z_wl (x * y) = z) (k : V l K M fr lo bc bs (pc + 1) lv (vL z :: st) n τ σ Q) : V l K M fr lo bc bs (pc) lv (vL y :: vL x :: st) n τ σ Q := by
  intro p e R s m args below meth c H locs cells slots ls F h1 h2 h3 h4 hR hS hl hg hG
  subst hz
  have e9 : Int64.ofInt x * Int64.ofInt y = Int64.ofInt (z_wl (x * y)) := by rw [z_ofwl, Int64.ofInt_mul]
  exact lv_lmul F.1 F.2.1 hd  (by rw [e9]; exact (k p e R s m args below meth c H locs cells slots ls F h1 h2 h3 h4 hR hS hl hg (z_gc (z_gL (z_wlL _)) (z_gt (z_gt hG)))))
theorem V_land {x y z : Int} (hd : decode M.2.1 pc = .ok (.land, 1))  (hz : (Int64.ofInt x &&& Int64.ofInt y).toInt = z) (k : V l K M fr lo bc bs (pc + 1) lv (vL z :: st) n τ σ Q) : V l K M fr lo bc bs (pc) lv (vL y :: vL x :: st) n τ σ Q := by
  intro p e R s m args below meth c H locs cells slots ls F h1 h2 h3 h4 hR hS hl hg hG
  subst hz
  have e9 : Int64.ofInt x &&& Int64.ofInt y = Int64.ofInt ((Int64.ofInt x &&& Int64.ofInt y).toInt) := by rw [z_ol]
  exact lv_land F.1 F.2.1 hd  (by rw [e9]; exact (k p e R s m args below meth c H locs cells slots ls F h1 h2 h3 h4 hR hS hl hg (z_gc (z_gL (z_Ll _)) (z_gt (z_gt hG)))))
theorem V_lneg {x z : Int} (hd : decode M.2.1 pc = .ok (.lneg, 1)) (hz : z_wl (-x) = z) (k : V l K M fr lo bc bs (pc + 1) lv (vL z :: st) n τ σ Q) : V l K M fr lo bc bs (pc) lv (vL x :: st) n τ σ Q := by
  intro p e R s m args below meth c H locs cells slots ls F h1 h2 h3 h4 hR hS hl hg hG
  subst hz
  have e9 : -Int64.ofInt x = Int64.ofInt (z_wl (-x)) := by rw [z_ofwl, Int64.ofInt_neg]
  exact lv_lneg F.1 F.2.1 hd (by rw [e9]; exact (k p e R s m args below meth c H locs cells slots ls F h1 h2 h3 h4 hR hS hl hg (z_gc (z_gL (z_wlL _)) (z_gt hG))))
theorem V_lshl {x y z : Int} (hd : decode M.2.1 pc = .ok (.lshl, 1)) (hz : (Int64.ofInt x <<< ((Int32.ofInt y).toInt64 &&& 63)).toInt = z) (k : V l K M fr lo bc bs (pc + 1) lv (vL z :: st) n τ σ Q) : V l K M fr lo bc bs (pc) lv (vI y :: vL x :: st) n τ σ Q := by
  intro p e R s m args below meth c H locs cells slots ls F h1 h2 h3 h4 hR hS hl hg hG
  subst hz
  exact lv_lshl F.1 F.2.1 hd (z_ol _).symm (k p e R s m args below meth c H locs cells slots ls F h1 h2 h3 h4 hR hS hl hg (z_gc (z_gL (z_Ll _)) (z_gt (z_gt hG))))
theorem V_lshr {x y z : Int} (hd : decode M.2.1 pc = .ok (.lshr, 1)) (hz : (Int64.ofInt x >>> ((Int32.ofInt y).toInt64 &&& 63)).toInt = z) (k : V l K M fr lo bc bs (pc + 1) lv (vL z :: st) n τ σ Q) : V l K M fr lo bc bs (pc) lv (vI y :: vL x :: st) n τ σ Q := by
  intro p e R s m args below meth c H locs cells slots ls F h1 h2 h3 h4 hR hS hl hg hG
  subst hz
  exact lv_lshr F.1 F.2.1 hd (z_ol _).symm (k p e R s m args below meth c H locs cells slots ls F h1 h2 h3 h4 hR hS hl hg (z_gc (z_gL (z_Ll _)) (z_gt (z_gt hG))))
theorem V_i2l {x : Int} (hd : decode M.2.1 pc = .ok (.i2l, 1)) (k : V l K M fr lo bc bs (pc + 1) lv (vL x :: st) n τ σ Q) : V l K M fr lo bc bs (pc) lv (vI x :: st) n τ σ Q := by
  intro p e R s m args below meth c H locs cells slots ls F h1 h2 h3 h4 hR hS hl hg hG
  have hx := z_hI hG
  exact lv_i2l F.1 F.2.1 hd (Int32.toInt64_ofInt (by rw [z_mn32]; exact hx.1) (by rw [z_mx32]; exact hx.2)) (k p e R s m args below meth c H locs cells slots ls F h1 h2 h3 h4 hR hS hl hg (z_gc (z_gL (by have h9 := z_hI hG; omega)) (z_gt hG)))
theorem V_l2i {x z : Int} (hd : decode M.2.1 pc = .ok (.l2i, 1)) (hz : z_w x = z) (k : V l K M fr lo bc bs (pc + 1) lv (vI z :: st) n τ σ Q) : V l K M fr lo bc bs (pc) lv (vL x :: st) n τ σ Q := by
  intro p e R s m args below meth c H locs cells slots ls F h1 h2 h3 h4 hR hS hl hg hG
  subst hz
  exact lv_l2i F.1 F.2.1 hd (by rw [z_ofw, Int64.toInt32_ofInt]) (k p e R s m args below meth c H locs cells slots ls F h1 h2 h3 h4 hR hS hl hg (z_gc (z_gI (z_wI _)) (z_gt hG)))
def z_cmp (x y : Int) : Int := if y < x then 1 else if x = y then 0 else -1
theorem z_cmpI (x y : Int) : z_I (z_cmp x y) := by
  unfold z_cmp
  split
  · decide
  · split <;> decide
theorem V_lcmp {x y z : Int} (hd : decode M.2.1 pc = .ok (.lcmp, 1)) (hz : z_cmp x y = z) (k : V l K M fr lo bc bs (pc + 1) lv (vI z :: st) n τ σ Q) : V l K M fr lo bc bs (pc) lv (vL y :: vL x :: st) n τ σ Q := by
  intro p e R s m args below meth c H locs cells slots ls F h1 h2 h3 h4 hR hS hl hg hG
  subst hz
  have hy := z_hL hG
  have hx := z_hL (z_gt hG)
  have e9 : lg_cmp (Int64.ofInt x) (Int64.ofInt y) = Int32.ofInt (z_cmp x y) := by
    unfold lg_cmp z_cmp
    by_cases a1 : y < x
    · rw [if_pos ((z_ltl hy hx).mpr a1), if_pos a1]; rfl
    · rw [if_neg (fun q9 => a1 ((z_ltl hy hx).mp q9)), if_neg a1]
      by_cases a2 : x = y
      · rw [if_pos ((z_eql hx hy).mpr a2), if_pos a2]; rfl
      · rw [if_neg (fun q9 => a2 ((z_eql hx hy).mp q9)), if_neg a2]; rfl
  exact W.lcmp F.1 F.2.1 hd (by rw [e9]; exact (k p e R s m args below meth c H locs cells slots ls F h1 h2 h3 h4 hR hS hl hg (z_gc (z_gI (z_cmpI x y)) (z_gt (z_gt hG)))))
theorem V_dup {a : z_V} (hd : decode M.2.1 pc = .ok (.dup, 1)) (k : V l K M fr lo bc bs (pc + 1) lv (a :: a :: st) n τ σ Q) (ha : a.1 ≠ 1 := by decide) : V l K M fr lo bc bs (pc) lv (a :: st) n τ σ Q := by
  intro p e R s m args below meth c H locs cells slots ls F h1 h2 h3 h4 hR hS hl hg hG
  exact lv_dup F.1 F.2.1 hd (by rw [z_c_cat, if_neg ha]) (k p e R s m args below meth c H locs cells slots ls F h1 h2 h3 h4 hR hS hl hg (z_gc (z_gh hG) hG))
theorem V_pop {a : z_V} (hd : decode M.2.1 pc = .ok (.pop, 1)) (k : V l K M fr lo bc bs (pc + 1) lv (st) n τ σ Q) (ha : a.1 ≠ 1 := by decide) : V l K M fr lo bc bs (pc) lv (a :: st) n τ σ Q := by
  intro p e R s m args below meth c H locs cells slots ls F h1 h2 h3 h4 hR hS hl hg hG
  exact lv_pop F.1 F.2.1 hd (by rw [z_c_cat, if_neg ha]) (k p e R s m args below meth c H locs cells slots ls F h1 h2 h3 h4 hR hS hl hg (z_gt hG))
theorem V_dup_x1 {a : z_V} {b : z_V} (hd : decode M.2.1 pc = .ok (.dup_x1, 1)) (k : V l K M fr lo bc bs (pc + 1) lv (a :: b :: a :: st) n τ σ Q) (ha : a.1 ≠ 1 := by decide) (hb : b.1 ≠ 1 := by decide) : V l K M fr lo bc bs (pc) lv (a :: b :: st) n τ σ Q := by
  intro p e R s m args below meth c H locs cells slots ls F h1 h2 h3 h4 hR hS hl hg hG
  exact lv_dup_x1 F.1 F.2.1 hd (by rw [z_c_cat, if_neg ha]) (by rw [z_c_cat, if_neg hb]) (k p e R s m args below meth c H locs cells slots ls F h1 h2 h3 h4 hR hS hl hg (z_gc (z_gh hG) (z_gc (z_gh (z_gt hG)) (z_gc (z_gh hG) (z_gt (z_gt hG))))))
theorem V_dup_x2 {a : z_V} {b : z_V} {c : z_V} (hd : decode M.2.1 pc = .ok (.dup_x2, 1)) (k : V l K M fr lo bc bs (pc + 1) lv (a :: b :: c :: a :: st) n τ σ Q) (ha : a.1 ≠ 1 := by decide) (hb : b.1 ≠ 1 := by decide) (hc : c.1 ≠ 1 := by decide) : V l K M fr lo bc bs (pc) lv (a :: b :: c :: st) n τ σ Q := by
  intro p e R s m args below meth c H locs cells slots ls F h1 h2 h3 h4 hR hS hl hg hG
  exact lv_dup_x2 F.1 F.2.1 hd (by rw [z_c_cat, if_neg ha]) (by rw [z_c_cat, if_neg hb]) (by rw [z_c_cat, if_neg hc]) (k p e R s m args below meth c H locs cells slots ls F h1 h2 h3 h4 hR hS hl hg (z_gc (z_gh hG) (z_gc (z_gh (z_gt hG)) (z_gc (z_gh (z_gt (z_gt hG))) (z_gc (z_gh hG) (z_gt (z_gt (z_gt hG))))))))
theorem V_dup2 {a : z_V} {b : z_V} (hd : decode M.2.1 pc = .ok (.dup2, 1)) (k : V l K M fr lo bc bs (pc + 1) lv (a :: b :: a :: b :: st) n τ σ Q) (ha : a.1 ≠ 1 := by decide) (hb : b.1 ≠ 1 := by decide) : V l K M fr lo bc bs (pc) lv (a :: b :: st) n τ σ Q := by
  intro p e R s m args below meth c H locs cells slots ls F h1 h2 h3 h4 hR hS hl hg hG
  exact lv_dup2_11 F.1 F.2.1 hd (by rw [z_c_cat, if_neg ha]) (by rw [z_c_cat, if_neg hb]) (k p e R s m args below meth c H locs cells slots ls F h1 h2 h3 h4 hR hS hl hg (z_gc (z_gh hG) (z_gc (z_gh (z_gt hG)) hG)))
theorem V_pop2 {x : Int} (hd : decode M.2.1 pc = .ok (.pop2, 1)) (k : V l K M fr lo bc bs (pc + 1) lv (st) n τ σ Q) : V l K M fr lo bc bs (pc) lv (vL x :: st) n τ σ Q := by
  intro p e R s m args below meth c H locs cells slots ls F h1 h2 h3 h4 hR hS hl hg hG
  exact lv_pop2_2 F.1 F.2.1 hd rfl (k p e R s m args below meth c H locs cells slots ls F h1 h2 h3 h4 hR hS hl hg (z_gt hG))
theorem V_icmp_eq {x y off : Int} {tgt : Nat} (hd : decode M.2.1 pc = .ok (.if_icmp .eq off, 3)) (kt : x = y → V l K M fr lo bc bs (tgt) lv (st) n τ σ Q) (kf : ¬ x = y → V l K M fr lo bc bs (pc + 3) lv (st) n τ σ Q) (ht : (pc : Int) + off = (tgt : Int) := by decide) : V l K M fr lo bc bs (pc) lv (vI y :: vI x :: st) n τ σ Q := by
  intro p e R s m args below meth c H locs cells slots ls F h1 h2 h3 h4 hR hS hl hg hG
  have hy := z_hI hG
  have hx := z_hI (z_gt hG)
  have i9 := z_eq hx hy
  refine lv_icmp_eq F.1 F.2.1 hd ht (fun q9 => kt (by first | exact i9.mp q9 | exact fun w9 => q9 ((z_eq hx hy).mpr w9)) p e R s m args below meth c H locs cells slots ls F h1 h2 h3 h4 hR hS hl hg (z_gt (z_gt hG))) (fun q9 => kf (by first | exact (z_eq hx hy).mp q9 | exact fun w9 => q9 ((z_eq hx hy).mpr w9) | exact Int.not_lt.mp (fun w9 => q9 (i9.mpr w9)) | exact Int.not_le.mp (fun w9 => q9 (i9.mpr w9))) p e R s m args below meth c H locs cells slots ls F h1 h2 h3 h4 hR hS hl hg (z_gt (z_gt hG)))
theorem V_icmp_ne {x y off : Int} {tgt : Nat} (hd : decode M.2.1 pc = .ok (.if_icmp .ne off, 3)) (kt : ¬ x = y → V l K M fr lo bc bs (tgt) lv (st) n τ σ Q) (kf : x = y → V l K M fr lo bc bs (pc + 3) lv (st) n τ σ Q) (ht : (pc : Int) + off = (tgt : Int) := by decide) : V l K M fr lo bc bs (pc) lv (vI y :: vI x :: st) n τ σ Q := by
  intro p e R s m args below meth c H locs cells slots ls F h1 h2 h3 h4 hR hS hl hg hG
  have hy := z_hI hG
  have hx := z_hI (z_gt hG)
  have i9 := not_congr (z_eq hx hy)
  refine lv_icmp_ne F.1 F.2.1 hd ht (fun q9 => kt (by first | exact i9.mp q9 | exact fun w9 => q9 ((z_eq hx hy).mpr w9)) p e R s m args below meth c H locs cells slots ls F h1 h2 h3 h4 hR hS hl hg (z_gt (z_gt hG))) (fun q9 => kf (by first | exact (z_eq hx hy).mp q9 | exact fun w9 => q9 ((z_eq hx hy).mpr w9) | exact Int.not_lt.mp (fun w9 => q9 (i9.mpr w9)) | exact Int.not_le.mp (fun w9 => q9 (i9.mpr w9))) p e R s m args below meth c H locs cells slots ls F h1 h2 h3 h4 hR hS hl hg (z_gt (z_gt hG)))
theorem V_icmp_lt {x y off : Int} {tgt : Nat} (hd : decode M.2.1 pc = .ok (.if_icmp .lt off, 3)) (kt : x < y → V l K M fr lo bc bs (tgt) lv (st) n τ σ Q) (kf : y ≤ x → V l K M fr lo bc bs (pc + 3) lv (st) n τ σ Q) (ht : (pc : Int) + off = (tgt : Int) := by decide) : V l K M fr lo bc bs (pc) lv (vI y :: vI x :: st) n τ σ Q := by
  intro p e R s m args below meth c H locs cells slots ls F h1 h2 h3 h4 hR hS hl hg hG
  have hy := z_hI hG
  have hx := z_hI (z_gt hG)
  have i9 := z_lt hx hy
  refine lv_icmp_lt F.1 F.2.1 hd ht (fun q9 => kt (by first | exact i9.mp q9 | exact fun w9 => q9 ((z_eq hx hy).mpr w9)) p e R s m args below meth c H locs cells slots ls F h1 h2 h3 h4 hR hS hl hg (z_gt (z_gt hG))) (fun q9 => kf (by first | exact (z_eq hx hy).mp q9 | exact fun w9 => q9 ((z_eq hx hy).mpr w9) | exact Int.not_lt.mp (fun w9 => q9 (i9.mpr w9)) | exact Int.not_le.mp (fun w9 => q9 (i9.mpr w9))) p e R s m args below meth c H locs cells slots ls F h1 h2 h3 h4 hR hS hl hg (z_gt (z_gt hG)))
theorem V_icmp_ge {x y off : Int} {tgt : Nat} (hd : decode M.2.1 pc = .ok (.if_icmp .ge off, 3)) (kt : y ≤ x → V l K M fr lo bc bs (tgt) lv (st) n τ σ Q) (kf : x < y → V l K M fr lo bc bs (pc + 3) lv (st) n τ σ Q) (ht : (pc : Int) + off = (tgt : Int) := by decide) : V l K M fr lo bc bs (pc) lv (vI y :: vI x :: st) n τ σ Q := by
  intro p e R s m args below meth c H locs cells slots ls F h1 h2 h3 h4 hR hS hl hg hG
  have hy := z_hI hG
  have hx := z_hI (z_gt hG)
  have i9 := z_le hy hx
  refine lv_icmp_ge F.1 F.2.1 hd ht (fun q9 => kt (by first | exact i9.mp q9 | exact fun w9 => q9 ((z_eq hx hy).mpr w9)) p e R s m args below meth c H locs cells slots ls F h1 h2 h3 h4 hR hS hl hg (z_gt (z_gt hG))) (fun q9 => kf (by first | exact (z_eq hx hy).mp q9 | exact fun w9 => q9 ((z_eq hx hy).mpr w9) | exact Int.not_lt.mp (fun w9 => q9 (i9.mpr w9)) | exact Int.not_le.mp (fun w9 => q9 (i9.mpr w9))) p e R s m args below meth c H locs cells slots ls F h1 h2 h3 h4 hR hS hl hg (z_gt (z_gt hG)))
theorem V_icmp_gt {x y off : Int} {tgt : Nat} (hd : decode M.2.1 pc = .ok (.if_icmp .gt off, 3)) (kt : y < x → V l K M fr lo bc bs (tgt) lv (st) n τ σ Q) (kf : x ≤ y → V l K M fr lo bc bs (pc + 3) lv (st) n τ σ Q) (ht : (pc : Int) + off = (tgt : Int) := by decide) : V l K M fr lo bc bs (pc) lv (vI y :: vI x :: st) n τ σ Q := by
  intro p e R s m args below meth c H locs cells slots ls F h1 h2 h3 h4 hR hS hl hg hG
  have hy := z_hI hG
  have hx := z_hI (z_gt hG)
  have i9 := z_lt hy hx
  refine lv_icmp_gt F.1 F.2.1 hd ht (fun q9 => kt (by first | exact i9.mp q9 | exact fun w9 => q9 ((z_eq hx hy).mpr w9)) p e R s m args below meth c H locs cells slots ls F h1 h2 h3 h4 hR hS hl hg (z_gt (z_gt hG))) (fun q9 => kf (by first | exact (z_eq hx hy).mp q9 | exact fun w9 => q9 ((z_eq hx hy).mpr w9) | exact Int.not_lt.mp (fun w9 => q9 (i9.mpr w9)) | exact Int.not_le.mp (fun w9 => q9 (i9.mpr w9))) p e R s m args below meth c H locs cells slots ls F h1 h2 h3 h4 hR hS hl hg (z_gt (z_gt hG)))
theorem V_icmp_le {x y off : Int} {tgt : Nat} (hd : decode M.2.1 pc = .ok (.if_icmp .le off, 3)) (kt : x ≤ y → V l K M fr lo bc bs (tgt) lv (st) n τ σ Q) (kf : y < x → V l K M fr lo bc bs (pc + 3) lv (st) n τ σ Q) (ht : (pc : Int) + off = (tgt : Int) := by decide) : V l K M fr lo bc bs (pc) lv (vI y :: vI x :: st) n τ σ Q := by
  intro p e R s m args below meth c H locs cells slots ls F h1 h2 h3 h4 hR hS hl hg hG
  have hy := z_hI hG
  have hx := z_hI (z_gt hG)
  have i9 := z_le hx hy
  refine lv_icmp_le F.1 F.2.1 hd ht (fun q9 => kt (by first | exact i9.mp q9 | exact fun w9 => q9 ((z_eq hx hy).mpr w9)) p e R s m args below meth c H locs cells slots ls F h1 h2 h3 h4 hR hS hl hg (z_gt (z_gt hG))) (fun q9 => kf (by first | exact (z_eq hx hy).mp q9 | exact fun w9 => q9 ((z_eq hx hy).mpr w9) | exact Int.not_lt.mp (fun w9 => q9 (i9.mpr w9)) | exact Int.not_le.mp (fun w9 => q9 (i9.mpr w9))) p e R s m args below meth c H locs cells slots ls F h1 h2 h3 h4 hR hS hl hg (z_gt (z_gt hG)))
theorem V_if_eq {x off : Int} {tgt : Nat} (hd : decode M.2.1 pc = .ok (.ifCond .eq off, 3)) (kt : x = 0 → V l K M fr lo bc bs (tgt) lv (st) n τ σ Q) (kf : x ≠ 0 → V l K M fr lo bc bs (pc + 3) lv (st) n τ σ Q) (ht : (pc : Int) + off = (tgt : Int) := by decide) : V l K M fr lo bc bs (pc) lv (vI x :: st) n τ σ Q := by
  intro p e R s m args below meth c H locs cells slots ls F h1 h2 h3 h4 hR hS hl hg hG
  have hx := z_hI hG
  have i9 := z_eq hx z_I0
  refine lv_if_eq F.1 F.2.1 hd ht (fun q9 => kt (by first | exact i9.mp q9 | exact fun w9 => q9 (i9.mpr w9)) p e R s m args below meth c H locs cells slots ls F h1 h2 h3 h4 hR hS hl hg (z_gt hG)) (fun q9 => kf (by first | exact i9.mp q9 | exact fun w9 => q9 (i9.mpr w9) | exact Int.not_lt.mp (fun w9 => q9 (i9.mpr w9)) | exact Int.not_le.mp (fun w9 => q9 (i9.mpr w9))) p e R s m args below meth c H locs cells slots ls F h1 h2 h3 h4 hR hS hl hg (z_gt hG))
theorem V_if_ne {x off : Int} {tgt : Nat} (hd : decode M.2.1 pc = .ok (.ifCond .ne off, 3)) (kt : x ≠ 0 → V l K M fr lo bc bs (tgt) lv (st) n τ σ Q) (kf : x = 0 → V l K M fr lo bc bs (pc + 3) lv (st) n τ σ Q) (ht : (pc : Int) + off = (tgt : Int) := by decide) : V l K M fr lo bc bs (pc) lv (vI x :: st) n τ σ Q := by
  intro p e R s m args below meth c H locs cells slots ls F h1 h2 h3 h4 hR hS hl hg hG
  have hx := z_hI hG
  have i9 := z_eq hx z_I0
  refine lv_if_ne F.1 F.2.1 hd ht (fun q9 => kt (by first | exact i9.mp q9 | exact fun w9 => q9 (i9.mpr w9)) p e R s m args below meth c H locs cells slots ls F h1 h2 h3 h4 hR hS hl hg (z_gt hG)) (fun q9 => kf (by first | exact i9.mp q9 | exact fun w9 => q9 (i9.mpr w9) | exact Int.not_lt.mp (fun w9 => q9 (i9.mpr w9)) | exact Int.not_le.mp (fun w9 => q9 (i9.mpr w9))) p e R s m args below meth c H locs cells slots ls F h1 h2 h3 h4 hR hS hl hg (z_gt hG))
theorem V_if_lt {x off : Int} {tgt : Nat} (hd : decode M.2.1 pc = .ok (.ifCond .lt off, 3)) (kt : x < 0 → V l K M fr lo bc bs (tgt) lv (st) n τ σ Q) (kf : 0 ≤ x → V l K M fr lo bc bs (pc + 3) lv (st) n τ σ Q) (ht : (pc : Int) + off = (tgt : Int) := by decide) : V l K M fr lo bc bs (pc) lv (vI x :: st) n τ σ Q := by
  intro p e R s m args below meth c H locs cells slots ls F h1 h2 h3 h4 hR hS hl hg hG
  have hx := z_hI hG
  have i9 := z_lt hx z_I0
  refine lv_if_lt F.1 F.2.1 hd ht (fun q9 => kt (by first | exact i9.mp q9 | exact fun w9 => q9 (i9.mpr w9)) p e R s m args below meth c H locs cells slots ls F h1 h2 h3 h4 hR hS hl hg (z_gt hG)) (fun q9 => kf (by first | exact i9.mp q9 | exact fun w9 => q9 (i9.mpr w9) | exact Int.not_lt.mp (fun w9 => q9 (i9.mpr w9)) | exact Int.not_le.mp (fun w9 => q9 (i9.mpr w9))) p e R s m args below meth c H locs cells slots ls F h1 h2 h3 h4 hR hS hl hg (z_gt hG))
theorem V_if_ge {x off : Int} {tgt : Nat} (hd : decode M.2.1 pc = .ok (.ifCond .ge off, 3)) (kt : 0 ≤ x → V l K M fr lo bc bs (tgt) lv (st) n τ σ Q) (kf : x < 0 → V l K M fr lo bc bs (pc + 3) lv (st) n τ σ Q) (ht : (pc : Int) + off = (tgt : Int) := by decide) : V l K M fr lo bc bs (pc) lv (vI x :: st) n τ σ Q := by
  intro p e R s m args below meth c H locs cells slots ls F h1 h2 h3 h4 hR hS hl hg hG
  have hx := z_hI hG
  have i9 := z_le z_I0 hx
  refine lv_if_ge F.1 F.2.1 hd ht (fun q9 => kt (by first | exact i9.mp q9 | exact fun w9 => q9 (i9.mpr w9)) p e R s m args below meth c H locs cells slots ls F h1 h2 h3 h4 hR hS hl hg (z_gt hG)) (fun q9 => kf (by first | exact i9.mp q9 | exact fun w9 => q9 (i9.mpr w9) | exact Int.not_lt.mp (fun w9 => q9 (i9.mpr w9)) | exact Int.not_le.mp (fun w9 => q9 (i9.mpr w9))) p e R s m args below meth c H locs cells slots ls F h1 h2 h3 h4 hR hS hl hg (z_gt hG))
theorem V_if_gt {x off : Int} {tgt : Nat} (hd : decode M.2.1 pc = .ok (.ifCond .gt off, 3)) (kt : 0 < x → V l K M fr lo bc bs (tgt) lv (st) n τ σ Q) (kf : x ≤ 0 → V l K M fr lo bc bs (pc + 3) lv (st) n τ σ Q) (ht : (pc : Int) + off = (tgt : Int) := by decide) : V l K M fr lo bc bs (pc) lv (vI x :: st) n τ σ Q := by
  intro p e R s m args below meth c H locs cells slots ls F h1 h2 h3 h4 hR hS hl hg hG
  have hx := z_hI hG
  have i9 := z_lt z_I0 hx
  refine lv_if_gt F.1 F.2.1 hd ht (fun q9 => kt (by first | exact i9.mp q9 | exact fun w9 => q9 (i9.mpr w9)) p e R s m args below meth c H locs cells slots ls F h1 h2 h3 h4 hR hS hl hg (z_gt hG)) (fun q9 => kf (by first | exact i9.mp q9 | exact fun w9 => q9 (i9.mpr w9) | exact Int.not_lt.mp (fun w9 => q9 (i9.mpr w9)) | exact Int.not_le.mp (fun w9 => q9 (i9.mpr w9))) p e R s m args below meth c H locs cells slots ls F h1 h2 h3 h4 hR hS hl hg (z_gt hG))
theorem V_if_le {x off : Int} {tgt : Nat} (hd : decode M.2.1 pc = .ok (.ifCond .le off, 3)) (kt : x ≤ 0 → V l K M fr lo bc bs (tgt) lv (st) n τ σ Q) (kf : 0 < x → V l K M fr lo bc bs (pc + 3) lv (st) n τ σ Q) (ht : (pc : Int) + off = (tgt : Int) := by decide) : V l K M fr lo bc bs (pc) lv (vI x :: st) n τ σ Q := by
  intro p e R s m args below meth c H locs cells slots ls F h1 h2 h3 h4 hR hS hl hg hG
  have hx := z_hI hG
  have i9 := z_le hx z_I0
  refine lv_if_le F.1 F.2.1 hd ht (fun q9 => kt (by first | exact i9.mp q9 | exact fun w9 => q9 (i9.mpr w9)) p e R s m args below meth c H locs cells slots ls F h1 h2 h3 h4 hR hS hl hg (z_gt hG)) (fun q9 => kf (by first | exact i9.mp q9 | exact fun w9 => q9 (i9.mpr w9) | exact Int.not_lt.mp (fun w9 => q9 (i9.mpr w9)) | exact Int.not_le.mp (fun w9 => q9 (i9.mpr w9))) p e R s m args below meth c H locs cells slots ls F h1 h2 h3 h4 hR hS hl hg (z_gt hG))
theorem V_goto {off : Int} {tgt : Nat} (hd : decode M.2.1 pc = .ok (.goto off, 3)) (k : V l K M fr lo bc bs (tgt) lv (st) n τ σ Q) (ht : (pc : Int) + off = (tgt : Int) := by decide) : V l K M fr lo bc bs (pc) lv (st) n τ σ Q := by
  intro p e R s m args below meth c H locs cells slots ls F h1 h2 h3 h4 hR hS hl hg hG
  exact lv_goto F.1 F.2.1 hd ht (k p e R s m args below meth c H locs cells slots ls F h1 h2 h3 h4 hR hS hl hg hG)
theorem V_ifnull {off x : Int} (hd : decode M.2.1 pc = .ok (.ifnull off, 3)) (hx : 1 ≤ x) (k : V l K M fr lo bc bs (pc + 3) lv (st) n τ σ Q) : V l K M fr lo bc bs (pc) lv (vR x :: st) n τ σ Q := by
  intro p e R s m args below meth c H locs cells slots ls F h1 h2 h3 h4 hR hS hl hg hG
  have kk := (k p e R s m args below meth c H locs cells slots ls F h1 h2 h3 h4 hR hS hl hg (z_gt hG))
  rw [List.map_cons]
  show W p l e R s m args below meth c H locs cells slots _ (F0 m pc ls (z_rv K x :: _))
  rw [z_rv_pos hx]
  exact lv_ifnull F.1 F.2.1 hd kk
theorem V_tableIn {dflt lo1 hi x off : Int} {offs : Array Int} {len tgt : Nat} (hd : decode M.2.1 pc = .ok (.tableswitch dflt lo1 hi offs, len)) (h5 : lo1 ≤ x ∧ x ≤ hi) (ho : offs[(x - lo1).toNat]? = some off) (ht : (pc : Int) + off = (tgt : Int)) (k : V l K M fr lo bc bs (tgt) lv (st) n τ σ Q) : V l K M fr lo bc bs (pc) lv (vI x :: st) n τ σ Q := by
  intro p e R s m args below meth c H locs cells slots ls F h1 h2 h3 h4 hR hS hl hg hG
  have hx := z_hI hG
  exact lv_tableIn F.1 F.2.1 hd (by rw [z_toi hx]; omega) (by rw [z_toi hx]; omega) (by rw [z_toi hx]; exact ho) ht (k p e R s m args below meth c H locs cells slots ls F h1 h2 h3 h4 hR hS hl hg (z_gt hG))
theorem V_tableOut {dflt lo1 hi x : Int} {offs : Array Int} {len tgt : Nat} (hd : decode M.2.1 pc = .ok (.tableswitch dflt lo1 hi offs, len)) (h5 : x < lo1 ∨ hi < x) (k : V l K M fr lo bc bs (tgt) lv (st) n τ σ Q) (ht : (pc : Int) + dflt = (tgt : Int) := by decide) : V l K M fr lo bc bs (pc) lv (vI x :: st) n τ σ Q := by
  intro p e R s m args below meth c H locs cells slots ls F h1 h2 h3 h4 hR hS hl hg hG
  have hx := z_hI hG
  exact lv_tableOut F.1 F.2.1 hd (by rw [z_toi hx]; exact h5) ht (k p e R s m args below meth c H locs cells slots ls F h1 h2 h3 h4 hR hS hl hg (z_gt hG))
theorem V_gI {x : Int} (k : z_I x → V l K M fr lo bc bs (pc) lv (vI x :: st) n τ σ Q) : V l K M fr lo bc bs (pc) lv (vI x :: st) n τ σ Q := by
  intro p e R s m args below meth c H locs cells slots ls F h1 h2 h3 h4 hR hS hl hg hG
  exact k (z_hI hG) p e R s m args below meth c H locs cells slots ls F h1 h2 h3 h4 hR hS hl hg hG
theorem V_gl {i : Nat} {x : Int} (hv : lv[i]? = some (vI x)) (k : z_I x → V l K M fr lo bc bs (pc) lv (st) n τ σ Q) : V l K M fr lo bc bs (pc) lv (st) n τ σ Q := by
  intro p e R s m args below meth c H locs cells slots ls F h1 h2 h3 h4 hR hS hl hg hG
  exact k ((z_gat hg hv).1 rfl) p e R s m args below meth c H locs cells slots ls F h1 h2 h3 h4 hR hS hl hg hG
theorem V_can (k : z_can σ → V l K M fr lo bc bs (pc) lv (st) n τ σ Q) : V l K M fr lo bc bs (pc) lv (st) n τ σ Q := by
  intro p e R s m args below meth c H locs cells slots ls F h1 h2 h3 h4 hR hS hl hg hG
  exact k hR.2.2.2 p e R s m args below meth c H locs cells slots ls F h1 h2 h3 h4 hR hS hl hg hG
theorem V_less {bc2 bs2 : Nat} (h5 : bc2 ≤ bc) (h6 : bs2 ≤ bs) (k : V l K M fr lo bc2 bs2 pc lv st n τ σ Q) : V l K M fr lo bc bs (pc) lv (st) n τ σ Q := by
  intro p e R s m args below meth c H locs cells slots ls F h1 h2 h3 h4 hR hS hl hg hG
  exact k p e R s m args below meth c H locs cells slots ls F h1 h2 (by omega) (by omega) hR hS hl hg hG
end ZV
