/-! THE LAW: handlers and the script as rules; the law's helpers and its loop as functions (by program, wip/tool/mklaw.py) -/
def z_cI (r : z_O) (k : Int → z_M → z_O) (h0 h1 : z_M → z_O) : z_O := match r with
  | some ((0, x), s) => k x s
  | some ((6, x), s) => if x = 0 then h0 s else if x = 1 then h1 s else none
  | _ => none
def z_cL (r : z_O) (k : Int → z_M → z_O) (h0 h1 : z_M → z_O) : z_O := match r with
  | some ((1, x), s) => k x s
  | some ((6, x), s) => if x = 0 then h0 s else if x = 1 then h1 s else none
  | _ => none
section ZX
variable {l : Launch} {K : z_K} {M : z_Me} {fr lo bc bs pc : Nat} {lv st : List z_V} {σ : z_M} {E : z_O}
theorem z_isRA {q : Nat} : z_isR (vA q) := Or.inr (Or.inl rfl)
theorem G_sload_n {i : Fin 4} (hd : decode M.2.1 pc = .ok (.aload_n i, 1)) (hv : lv[(i : Nat)]? = some (vA K.2.2.2.2.2.1)) (k : G l K M fr lo bc bs (pc + 1) lv (vA K.2.2.2.2.2.1 :: st) σ (E)) : G l K M fr lo bc bs (pc) lv (st) σ (E) := fun h => V_aload_n hd hv (k h) z_isRA
theorem G_xastore_n {i : Fin 4} {q : Nat} {lv' : List z_V} (hd : decode M.2.1 pc = .ok (.astore_n i, 1)) (hs : z_set lv (i : Nat) (vA q) = lv') (k : G l K M fr lo bc bs (pc + 1) lv' (st) σ (E)) (hi : (i : Nat) < M.2.2.1 := by decide) : G l K M fr lo bc bs (pc) lv (vA q :: st) σ (E) := fun h => V_astore_n hd hs (k h) z_isRA hi
theorem G_xastore {i : Nat} {q : Nat} {lv' : List z_V} (hd : decode M.2.1 pc = .ok (.astore i, 2)) (hs : z_set lv i (vA q) = lv') (k : G l K M fr lo bc bs (pc + 2) lv' (st) σ (E)) (hi : i < M.2.2.1 := by decide) : G l K M fr lo bc bs (pc) lv (vA q :: st) σ (E) := fun h => V_astore hd hs (k h) z_isRA hi
theorem GX_1 {x : Int} {a b h ct : Nat} {hr : List (Nat × Nat × Nat × Nat)} (hh : M.2.2.2.2 = (a, b, h, ct) :: hr) (hx : x = 0 ∨ x = 1) (hw : Cond.classLink M.1.cls ct (z_xn x) ∈ z_tbl) (hc : a ≤ pc ∧ pc < b) (h0 : ct ≠ 0)
    (kk : ∀ q : Nat, G l K M fr lo bc bs h lv [vA q] σ E) : E ≠ none → VX l K M fr lo bc bs pc lv st z_NC z_gr σ x (z_QE E) := fun he => VX_catch1 hh hx hw hc h0 fun q => kk q he
theorem GX_2 {x x2 : Int} {a b h ct a2 b2 h2' ct2 : Nat} {hr : List (Nat × Nat × Nat × Nat)} (hh : M.2.2.2.2 = (a2, b2, h2', ct2) :: (a, b, h, ct) :: hr) (hx : (x = 0 ∧ x2 = 1) ∨ (x = 1 ∧ x2 = 0)) (hw : Cond.classLink M.1.cls ct (z_xn x) ∈ z_tbl) (hw2 : Cond.classLink M.1.cls ct2 (z_xn x2) ∈ z_tbl) (hc : a ≤ pc ∧ pc < b) (h0 : ct ≠ 0) (h02 : ct2 ≠ 0)
    (kk : ∀ q : Nat, G l K M fr lo bc bs h lv [vA q] σ E) : E ≠ none → VX l K M fr lo bc bs pc lv st z_NC z_gr σ x (z_QE E) := fun he => VX_catch2 hh hx hw hw2 hc h0 h02 fun q => kk q he
theorem z_krCI {bc2 bs2 : Nat} {r : z_O} {f : Int → z_M → z_O} {h0 h1 : z_M → z_O} (h : z_cI r f h0 h1 ≠ none) (kk : ∀ x s, G l K M fr lo bc2 bs2 (pc + 3) lv (vI x :: st) s (f x s)) : ∀ (v : z_V) (n' : Nat) (τ' σ' : z_M), v.1 < 6 → z_g v → z_QE r v n' τ' σ' → V l K M fr lo bc2 bs2 (pc + 3) lv (z_push v st) n' τ' σ' (z_QE (z_cI r f h0 h1)) := by
  intro v n' τ' σ' hv _ hq
  obtain ⟨rfl, rfl, e⟩ := hq
  obtain ⟨t, x⟩ := v
  subst e
  match t, hv with
  | 0, _ => exact kk _ _ h
  | 1, _ => exact absurd rfl h
  | 2, _ => exact absurd rfl h
  | 3, _ => exact absurd rfl h
  | 4, _ => exact absurd rfl h
  | 5, _ => exact absurd rfl h
theorem z_krCL {bc2 bs2 : Nat} {r : z_O} {f : Int → z_M → z_O} {h0 h1 : z_M → z_O} (h : z_cL r f h0 h1 ≠ none) (kk : ∀ x s, G l K M fr lo bc2 bs2 (pc + 3) lv (vL x :: st) s (f x s)) : ∀ (v : z_V) (n' : Nat) (τ' σ' : z_M), v.1 < 6 → z_g v → z_QE r v n' τ' σ' → V l K M fr lo bc2 bs2 (pc + 3) lv (z_push v st) n' τ' σ' (z_QE (z_cL r f h0 h1)) := by
  intro v n' τ' σ' hv _ hq
  obtain ⟨rfl, rfl, e⟩ := hq
  obtain ⟨t, x⟩ := v
  subst e
  match t, hv with
  | 0, _ => exact absurd rfl h
  | 1, _ => exact kk _ _ h
  | 2, _ => exact absurd rfl h
  | 3, _ => exact absurd rfl h
  | 4, _ => exact absurd rfl h
  | 5, _ => exact absurd rfl h
theorem z_kxCI {bc2 bs2 : Nat} {r : z_O} {f : Int → z_M → z_O} {h0 h1 : z_M → z_O} (h : z_cI r f h0 h1 ≠ none) (kx0 : ∀ s, h0 s ≠ none → VX l K M fr lo bc2 bs2 pc lv st z_NC z_gr s 0 (z_QE (h0 s))) (kx1 : ∀ s, h1 s ≠ none → VX l K M fr lo bc2 bs2 pc lv st z_NC z_gr s 1 (z_QE (h1 s))) :
    ∀ (x : Int) (n' : Nat) (τ' σ' : z_M), z_QE r (vX x) n' τ' σ' → VX l K M fr lo bc2 bs2 pc lv st n' τ' σ' x (z_QE (z_cI r f h0 h1)) := by
  intro x n' τ' σ' hq
  obtain ⟨rfl, rfl, e⟩ := hq
  subst e
  by_cases q0 : x = 0
  · subst q0
    have e2 : z_cI (some (vX 0, σ')) f h0 h1 = h0 σ' := rfl
    rw [e2] at h ⊢; exact kx0 _ h
  · by_cases q1 : x = 1
    · subst q1
      have e2 : z_cI (some (vX 1, σ')) f h0 h1 = h1 σ' := rfl
      rw [e2] at h ⊢; exact kx1 _ h
    · exact absurd ((if_neg q0).trans (if_neg q1)) h
theorem z_kxCL {bc2 bs2 : Nat} {r : z_O} {f : Int → z_M → z_O} {h0 h1 : z_M → z_O} (h : z_cL r f h0 h1 ≠ none) (kx0 : ∀ s, h0 s ≠ none → VX l K M fr lo bc2 bs2 pc lv st z_NC z_gr s 0 (z_QE (h0 s))) (kx1 : ∀ s, h1 s ≠ none → VX l K M fr lo bc2 bs2 pc lv st z_NC z_gr s 1 (z_QE (h1 s))) :
    ∀ (x : Int) (n' : Nat) (τ' σ' : z_M), z_QE r (vX x) n' τ' σ' → VX l K M fr lo bc2 bs2 pc lv st n' τ' σ' x (z_QE (z_cL r f h0 h1)) := by
  intro x n' τ' σ' hq
  obtain ⟨rfl, rfl, e⟩ := hq
  subst e
  by_cases q0 : x = 0
  · subst q0
    have e2 : z_cL (some (vX 0, σ')) f h0 h1 = h0 σ' := rfl
    rw [e2] at h ⊢; exact kx0 _ h
  · by_cases q1 : x = 1
    · subst q1
      have e2 : z_cL (some (vX 1, σ')) f h0 h1 = h1 σ' := rfl
      rw [e2] at h ⊢; exact kx1 _ h
    · exact absurd ((if_neg q0).trans (if_neg q1)) h
theorem z_neCI {r : z_O} {f : Int → z_M → z_O} {h0 h1 : z_M → z_O} (h : z_cI r f h0 h1 ≠ none) : r ≠ none := by
  intro e
  subst e
  exact h rfl
theorem z_neCL {r : z_O} {f : Int → z_M → z_O} {h0 h1 : z_M → z_O} (h : z_cL r f h0 h1 ≠ none) : r ≠ none := by
  intro e
  subst e
  exact h rfl
theorem G_ccI {idx na c fr2 lo2 mc ms bc2 bs2 : Nat} {M2 : z_Me} {as S : List z_V} {k : Int} {r : z_O} {f : Int → z_M → z_O} {h0 h1 : z_M → z_O} {r9 : vw_C} (hd : decode M.2.1 pc = .ok (.invokevirtual idx, 3)) (hM : z_MOK M2) (hV : z_VOK M2 na) (hw : Cond.methodLink M.1.cls idx M2.1 ∈ z_tbl) (hC : z_D l K M2 fr2 lo2 mc ms (vR k :: as) σ r) (hS : as.reverse ++ vR k :: st = S)
    (hn : as.length = na) (hc : c < 100) (hcl : vwCl[c]? = some r9) (hcn : r9.1 = M2.1.cls) (hrm : z_rm fr lo bc bs fr2 M2.2.2.1 lo2 mc ms bc2 bs2 st)
    (kk : ∀ x s, G l K M fr lo bc2 bs2 (pc + 3) lv (vI x :: st) s (f x s)) (kx0 : ∀ s, h0 s ≠ none → VX l K M fr lo bc2 bs2 pc lv st z_NC z_gr s 0 (z_QE (h0 s))) (kx1 : ∀ s, h1 s ≠ none → VX l K M fr lo bc2 bs2 pc lv st z_NC z_gr s 1 (z_QE (h1 s))) : G l K M fr lo bc bs (pc) lv (S) σ (if z_ob k c then z_cI r f h0 h1 else none) := by
  subst hS
  exact G_chk fun q h => V_callV hd hM hV hw (hC (z_neCI h)) hn q.1 (z_le_NC q.2.1) q.2.2 hc hcl hcn hrm (z_krCI h kk) (z_kxCI h kx0 kx1)
theorem G_ccL {idx na c fr2 lo2 mc ms bc2 bs2 : Nat} {M2 : z_Me} {as S : List z_V} {k : Int} {r : z_O} {f : Int → z_M → z_O} {h0 h1 : z_M → z_O} {r9 : vw_C} (hd : decode M.2.1 pc = .ok (.invokevirtual idx, 3)) (hM : z_MOK M2) (hV : z_VOK M2 na) (hw : Cond.methodLink M.1.cls idx M2.1 ∈ z_tbl) (hC : z_D l K M2 fr2 lo2 mc ms (vR k :: as) σ r) (hS : as.reverse ++ vR k :: st = S)
    (hn : as.length = na) (hc : c < 100) (hcl : vwCl[c]? = some r9) (hcn : r9.1 = M2.1.cls) (hrm : z_rm fr lo bc bs fr2 M2.2.2.1 lo2 mc ms bc2 bs2 st)
    (kk : ∀ x s, G l K M fr lo bc2 bs2 (pc + 3) lv (vL x :: st) s (f x s)) (kx0 : ∀ s, h0 s ≠ none → VX l K M fr lo bc2 bs2 pc lv st z_NC z_gr s 0 (z_QE (h0 s))) (kx1 : ∀ s, h1 s ≠ none → VX l K M fr lo bc2 bs2 pc lv st z_NC z_gr s 1 (z_QE (h1 s))) : G l K M fr lo bc bs (pc) lv (S) σ (if z_ob k c then z_cL r f h0 h1 else none) := by
  subst hS
  exact G_chk fun q h => V_callV hd hM hV hw (hC (z_neCL h)) hn q.1 (z_le_NC q.2.1) q.2.2 hc hcl hcn hrm (z_krCL h kk) (z_kxCL h kx0 kx1)
end ZX
def fL_text (fu : Nat) (s : z_M) (a0 : Int) (a1 : Int) (a2 : Int) : z_O := if z_ob a0 11 then z_cI (fX11_text fu s a0 a1) (fun x2 s1 => if z_ix a2 101 0 then z_let (z_up s1 a2 0 x2) (fun s3 => some (vI 0, s3)) else none) (fun _ => none) (fun s4 => some (vI 1, s4)) else none
theorem gL_text {l : Launch} {K : z_K} (hst : l.stackTraces = false) (fu : Nat) (s : z_M) (a0 : Int) (a1 : Int) (a2 : Int) : z_D l K mL_text 8 194 1 6 [vR a0, vI a1, vR a2] s (fL_text fu s a0 a1 a2) := by
  refine z_D_of (lv := [vR a0, vI a1, vR a2, vU]) hst z_mL_text rfl ?_ (Nat.le_of_ble_eq_true rfl) rfl
  unfold fL_text
  refine G_aload_n (x := a2) (pc := 0) dL_text_0 rfl ?_
  refine G_iconst (pc := 1) dL_text_1 ?_
  refine G_aload_n (x := a0) (pc := 2) dL_text_2 rfl ?_
  refine G_iload_n (x := a1) (pc := 3) dL_text_3 rfl ?_
  refine G_ccI (as := [vI a1]) (st := [vI 0, vR a2]) (c := 11) (bc2 := 0) (bs2 := 0) (pc := 4) dL_text_4 z_mX11_text z_vX11_text z_wL_7 (gX11_text hst fu s a0 a1) rfl rfl (by decide) rfl rfl ⟨by decide, by decide, by decide, by decide, Nat.le_of_ble_eq_true rfl⟩ (fun x2 s1 => ?_) (fun _ h => absurd rfl h) (fun s4 => GX_1 (x := 1) rfl (Or.inr rfl) z_wL_13 (by decide) (by decide) (fun q5 => ?_))
  · refine G_i2l (pc := 7) dL_text_7 ?_
    refine G_last (pc := 8) dL_text_8 (fun s3 => ?_)
    refine G_goto (tgt := 15) (pc := 9) dL_text_9 ?_
    refine G_iconst (pc := 15) dL_text_15 ?_
    exact G_iret (pc := 16) dL_text_16
  · refine G_xastore_n (lv' := [vR a0, vI a1, vR a2, vA q5]) (pc := 12) dL_text_12 rfl ?_
    refine G_iconst (pc := 13) dL_text_13 ?_
    exact G_iret (pc := 14) dL_text_14
def fL_more (fu : Nat) (s : z_M) (a0 : Int) (a1 : Int) (a2 : Int) : z_O := if z_ob a0 11 then z_cI (fX11_more fu s a0 a1) (fun x2 s1 => if z_ix a2 101 0 then z_let (z_up s1 a2 0 x2) (fun s3 => some (vI 0, s3)) else none) (fun _ => none) (fun s4 => some (vI 1, s4)) else none
theorem gL_more {l : Launch} {K : z_K} (hst : l.stackTraces = false) (fu : Nat) (s : z_M) (a0 : Int) (a1 : Int) (a2 : Int) : z_D l K mL_more 8 194 1 6 [vR a0, vI a1, vR a2] s (fL_more fu s a0 a1 a2) := by
  refine z_D_of (lv := [vR a0, vI a1, vR a2, vU]) hst z_mL_more rfl ?_ (Nat.le_of_ble_eq_true rfl) rfl
  unfold fL_more
  refine G_aload_n (x := a2) (pc := 0) dL_more_0 rfl ?_
  refine G_iconst (pc := 1) dL_more_1 ?_
  refine G_aload_n (x := a0) (pc := 2) dL_more_2 rfl ?_
  refine G_iload_n (x := a1) (pc := 3) dL_more_3 rfl ?_
  refine G_ccI (as := [vI a1]) (st := [vI 0, vR a2]) (c := 11) (bc2 := 0) (bs2 := 0) (pc := 4) dL_more_4 z_mX11_more z_vX11_more z_wL_15 (gX11_more hst fu s a0 a1) rfl rfl (by decide) rfl rfl ⟨by decide, by decide, by decide, by decide, Nat.le_of_ble_eq_true rfl⟩ (fun x2 s1 => ?_) (fun _ h => absurd rfl h) (fun s4 => GX_1 (x := 1) rfl (Or.inr rfl) z_wL_13 (by decide) (by decide) (fun q5 => ?_))
  · refine G_i2l (pc := 7) dL_more_7 ?_
    refine G_last (pc := 8) dL_more_8 (fun s3 => ?_)
    refine G_goto (tgt := 15) (pc := 9) dL_more_9 ?_
    refine G_iconst (pc := 15) dL_more_15 ?_
    exact G_iret (pc := 16) dL_more_16
  · refine G_xastore_n (lv' := [vR a0, vI a1, vR a2, vA q5]) (pc := 12) dL_more_12 rfl ?_
    refine G_iconst (pc := 13) dL_more_13 ?_
    exact G_iret (pc := 14) dL_more_14
def fL_set (fu : Nat) (s : z_M) (a0 : Int) (a1 : Int) (a2 : Int) (a3 : Int) : z_O := if z_ob a0 11 then z_cI (fX11_set fu s a0 a1 a2) (fun x2 s1 => if z_ix a3 101 0 then z_let (z_up s1 a3 0 x2) (fun s3 => some (vI 0, s3)) else none) (fun _ => none) (fun s4 => some (vI 1, s4)) else none
theorem gL_set {l : Launch} {K : z_K} (hst : l.stackTraces = false) (fu : Nat) (s : z_M) (a0 : Int) (a1 : Int) (a2 : Int) (a3 : Int) : z_D l K mL_set 8 127 2 12 [vR a0, vI a1, vI a2, vR a3] s (fL_set fu s a0 a1 a2 a3) := by
  refine z_D_of (lv := [vR a0, vI a1, vI a2, vR a3, vU]) hst z_mL_set rfl ?_ (Nat.le_of_ble_eq_true rfl) rfl
  unfold fL_set
  refine G_aload_n (x := a3) (pc := 0) dL_set_0 rfl ?_
  refine G_iconst (pc := 1) dL_set_1 ?_
  refine G_aload_n (x := a0) (pc := 2) dL_set_2 rfl ?_
  refine G_iload_n (x := a1) (pc := 3) dL_set_3 rfl ?_
  refine G_iload_n (x := a2) (pc := 4) dL_set_4 rfl ?_
  refine G_ccI (as := [vI a1, vI a2]) (st := [vI 0, vR a3]) (c := 11) (bc2 := 0) (bs2 := 0) (pc := 5) dL_set_5 z_mX11_set z_vX11_set z_wL_18 (gX11_set hst fu s a0 a1 a2) rfl rfl (by decide) rfl rfl ⟨by decide, by decide, by decide, by decide, Nat.le_of_ble_eq_true rfl⟩ (fun x2 s1 => ?_) (fun _ h => absurd rfl h) (fun s4 => GX_1 (x := 1) rfl (Or.inr rfl) z_wL_13 (by decide) (by decide) (fun q5 => ?_))
  · refine G_i2l (pc := 8) dL_set_8 ?_
    refine G_last (pc := 9) dL_set_9 (fun s3 => ?_)
    refine G_goto (tgt := 17) (pc := 10) dL_set_10 ?_
    refine G_iconst (pc := 17) dL_set_17 ?_
    exact G_iret (pc := 18) dL_set_18
  · refine G_xastore (lv' := [vR a0, vI a1, vI a2, vR a3, vA q5]) (pc := 13) dL_set_13 rfl ?_
    refine G_iconst (pc := 15) dL_set_15 ?_
    exact G_iret (pc := 16) dL_set_16
def fL_cut (fu : Nat) (s : z_M) (a0 : Int) (a1 : Int) (a2 : Int) (a3 : Int) : z_O := if z_ob a0 11 then z_cI (fX11_cut fu s a0 a1 a2) (fun x2 s1 => if z_ix a3 101 0 then z_let (z_up s1 a3 0 x2) (fun s3 => some (vI 0, s3)) else none) (fun s4 => some (vI 1, s4)) (fun s6 => some (vI 2, s6)) else none
theorem gL_cut {l : Launch} {K : z_K} (hst : l.stackTraces = false) (fu : Nat) (s : z_M) (a0 : Int) (a1 : Int) (a2 : Int) (a3 : Int) : z_D l K mL_cut 8 194 3 18 [vR a0, vI a1, vI a2, vR a3] s (fL_cut fu s a0 a1 a2 a3) := by
  refine z_D_of (lv := [vR a0, vI a1, vI a2, vR a3, vU]) hst z_mL_cut rfl ?_ (Nat.le_of_ble_eq_true rfl) rfl
  unfold fL_cut
  refine G_aload_n (x := a3) (pc := 0) dL_cut_0 rfl ?_
  refine G_iconst (pc := 1) dL_cut_1 ?_
  refine G_aload_n (x := a0) (pc := 2) dL_cut_2 rfl ?_
  refine G_iload_n (x := a1) (pc := 3) dL_cut_3 rfl ?_
  refine G_iload_n (x := a2) (pc := 4) dL_cut_4 rfl ?_
  refine G_ccI (as := [vI a1, vI a2]) (st := [vI 0, vR a3]) (c := 11) (bc2 := 0) (bs2 := 0) (pc := 5) dL_cut_5 z_mX11_cut z_vX11_cut z_wL_22 (gX11_cut hst fu s a0 a1 a2) rfl rfl (by decide) rfl rfl ⟨by decide, by decide, by decide, by decide, Nat.le_of_ble_eq_true rfl⟩ (fun x2 s1 => ?_) (fun s4 => GX_1 (x := 0) rfl (Or.inl rfl) z_wL_25 (by decide) (by decide) (fun q5 => ?_)) (fun s6 => GX_2 (x := 1) (x2 := 0) rfl (Or.inr ⟨rfl, rfl⟩) z_wL_13 z_wL_25 (by decide) (by decide) (by decide) (fun q7 => ?_))
  · refine G_i2l (pc := 8) dL_cut_8 ?_
    refine G_last (pc := 9) dL_cut_9 (fun s3 => ?_)
    refine G_goto (tgt := 21) (pc := 10) dL_cut_10 ?_
    refine G_iconst (pc := 21) dL_cut_21 ?_
    exact G_iret (pc := 22) dL_cut_22
  · refine G_xastore (lv' := [vR a0, vI a1, vI a2, vR a3, vA q5]) (pc := 13) dL_cut_13 rfl ?_
    refine G_iconst (pc := 15) dL_cut_15 ?_
    exact G_iret (pc := 16) dL_cut_16
  · refine G_xastore (lv' := [vR a0, vI a1, vI a2, vR a3, vA q7]) (pc := 17) dL_cut_17 rfl ?_
    refine G_iconst (pc := 19) dL_cut_19 ?_
    exact G_iret (pc := 20) dL_cut_20
def fL_told (fu : Nat) (s : z_M) (a0 : Int) (a1 : Int) (a2 : Int) : z_O := if z_ob a0 11 then z_cL (fX11_told fu s a0 a1) (fun x2 s1 => if z_ix a2 101 0 then z_let (z_up s1 a2 0 x2) (fun s3 => some (vI 0, s3)) else none) (fun _ => none) (fun s4 => some (vI 1, s4)) else none
theorem gL_told {l : Launch} {K : z_K} (hst : l.stackTraces = false) (fu : Nat) (s : z_M) (a0 : Int) (a1 : Int) (a2 : Int) : z_D l K mL_told 8 193 1 6 [vR a0, vI a1, vR a2] s (fL_told fu s a0 a1 a2) := by
  refine z_D_of (lv := [vR a0, vI a1, vR a2, vU]) hst z_mL_told rfl ?_ (Nat.le_of_ble_eq_true rfl) rfl
  unfold fL_told
  refine G_aload_n (x := a2) (pc := 0) dL_told_0 rfl ?_
  refine G_iconst (pc := 1) dL_told_1 ?_
  refine G_aload_n (x := a0) (pc := 2) dL_told_2 rfl ?_
  refine G_iload_n (x := a1) (pc := 3) dL_told_3 rfl ?_
  refine G_ccL (as := [vI a1]) (st := [vI 0, vR a2]) (c := 11) (bc2 := 0) (bs2 := 0) (pc := 4) dL_told_4 z_mX11_told z_vX11_told z_wL_27 (gX11_told hst fu s a0 a1) rfl rfl (by decide) rfl rfl ⟨by decide, by decide, by decide, by decide, Nat.le_of_ble_eq_true rfl⟩ (fun x2 s1 => ?_) (fun _ h => absurd rfl h) (fun s4 => GX_1 (x := 1) rfl (Or.inr rfl) z_wL_13 (by decide) (by decide) (fun q5 => ?_))
  · refine G_last (pc := 7) dL_told_7 (fun s3 => ?_)
    refine G_goto (tgt := 14) (pc := 8) dL_told_8 ?_
    refine G_iconst (pc := 14) dL_told_14 ?_
    exact G_iret (pc := 15) dL_told_15
  · refine G_xastore_n (lv' := [vR a0, vI a1, vR a2, vA q5]) (pc := 11) dL_told_11 rfl ?_
    refine G_iconst (pc := 12) dL_told_12 ?_
    exact G_iret (pc := 13) dL_told_13
def fL_unit (fu : Nat) (s : z_M) (a0 : Int) (a1 : Int) (a2 : Int) (a3 : Int) : z_O := if z_ob a0 11 then z_cI (fX11_unit fu s a0 a1 a2) (fun x2 s1 => if z_ix a3 101 0 then z_let (z_up s1 a3 0 x2) (fun s3 => some (vI 0, s3)) else none) (fun s4 => some (vI 1, s4)) (fun s6 => some (vI 2, s6)) else none
theorem gL_unit {l : Launch} {K : z_K} (hst : l.stackTraces = false) (fu : Nat) (s : z_M) (a0 : Int) (a1 : Int) (a2 : Int) (a3 : Int) : z_D l K mL_unit 8 194 2 12 [vR a0, vI a1, vI a2, vR a3] s (fL_unit fu s a0 a1 a2 a3) := by
  refine z_D_of (lv := [vR a0, vI a1, vI a2, vR a3, vU]) hst z_mL_unit rfl ?_ (Nat.le_of_ble_eq_true rfl) rfl
  unfold fL_unit
  refine G_aload_n (x := a3) (pc := 0) dL_unit_0 rfl ?_
  refine G_iconst (pc := 1) dL_unit_1 ?_
  refine G_aload_n (x := a0) (pc := 2) dL_unit_2 rfl ?_
  refine G_iload_n (x := a1) (pc := 3) dL_unit_3 rfl ?_
  refine G_iload_n (x := a2) (pc := 4) dL_unit_4 rfl ?_
  refine G_ccI (as := [vI a1, vI a2]) (st := [vI 0, vR a3]) (c := 11) (bc2 := 0) (bs2 := 0) (pc := 5) dL_unit_5 z_mX11_unit z_vX11_unit z_wL_31 (gX11_unit hst fu s a0 a1 a2) rfl rfl (by decide) rfl rfl ⟨by decide, by decide, by decide, by decide, Nat.le_of_ble_eq_true rfl⟩ (fun x2 s1 => ?_) (fun s4 => GX_1 (x := 0) rfl (Or.inl rfl) z_wL_25 (by decide) (by decide) (fun q5 => ?_)) (fun s6 => GX_2 (x := 1) (x2 := 0) rfl (Or.inr ⟨rfl, rfl⟩) z_wL_13 z_wL_25 (by decide) (by decide) (by decide) (fun q7 => ?_))
  · refine G_i2l (pc := 8) dL_unit_8 ?_
    refine G_last (pc := 9) dL_unit_9 (fun s3 => ?_)
    refine G_goto (tgt := 21) (pc := 10) dL_unit_10 ?_
    refine G_iconst (pc := 21) dL_unit_21 ?_
    exact G_iret (pc := 22) dL_unit_22
  · refine G_xastore (lv' := [vR a0, vI a1, vI a2, vR a3, vA q5]) (pc := 13) dL_unit_13 rfl ?_
    refine G_iconst (pc := 15) dL_unit_15 ?_
    exact G_iret (pc := 16) dL_unit_16
  · refine G_xastore (lv' := [vR a0, vI a1, vI a2, vR a3, vA q7]) (pc := 17) dL_unit_17 rfl ?_
    refine G_iconst (pc := 19) dL_unit_19 ?_
    exact G_iret (pc := 20) dL_unit_20
def fL_sign (fu : Nat) (s : z_M) (a0 : Int) (a1 : Int) (a2 : Int) (a3 : Int) : z_O := if z_ob a0 11 then z_cI (fX11_sign fu s a0 a1 a2) (fun x2 s1 => if z_ix a3 101 0 then z_let (z_up s1 a3 0 x2) (fun s3 => some (vI 0, s3)) else none) (fun s4 => some (vI 1, s4)) (fun s6 => some (vI 2, s6)) else none
theorem gL_sign {l : Launch} {K : z_K} (hst : l.stackTraces = false) (fu : Nat) (s : z_M) (a0 : Int) (a1 : Int) (a2 : Int) (a3 : Int) : z_D l K mL_sign 8 194 2 12 [vR a0, vI a1, vI a2, vR a3] s (fL_sign fu s a0 a1 a2 a3) := by
  refine z_D_of (lv := [vR a0, vI a1, vI a2, vR a3, vU]) hst z_mL_sign rfl ?_ (Nat.le_of_ble_eq_true rfl) rfl
  unfold fL_sign
  refine G_aload_n (x := a3) (pc := 0) dL_sign_0 rfl ?_
  refine G_iconst (pc := 1) dL_sign_1 ?_
  refine G_aload_n (x := a0) (pc := 2) dL_sign_2 rfl ?_
  refine G_iload_n (x := a1) (pc := 3) dL_sign_3 rfl ?_
  refine G_iload_n (x := a2) (pc := 4) dL_sign_4 rfl ?_
  refine G_ccI (as := [vI a1, vI a2]) (st := [vI 0, vR a3]) (c := 11) (bc2 := 0) (bs2 := 0) (pc := 5) dL_sign_5 z_mX11_sign z_vX11_sign z_wL_34 (gX11_sign hst fu s a0 a1 a2) rfl rfl (by decide) rfl rfl ⟨by decide, by decide, by decide, by decide, Nat.le_of_ble_eq_true rfl⟩ (fun x2 s1 => ?_) (fun s4 => GX_1 (x := 0) rfl (Or.inl rfl) z_wL_25 (by decide) (by decide) (fun q5 => ?_)) (fun s6 => GX_2 (x := 1) (x2 := 0) rfl (Or.inr ⟨rfl, rfl⟩) z_wL_13 z_wL_25 (by decide) (by decide) (by decide) (fun q7 => ?_))
  · refine G_i2l (pc := 8) dL_sign_8 ?_
    refine G_last (pc := 9) dL_sign_9 (fun s3 => ?_)
    refine G_goto (tgt := 21) (pc := 10) dL_sign_10 ?_
    refine G_iconst (pc := 21) dL_sign_21 ?_
    exact G_iret (pc := 22) dL_sign_22
  · refine G_xastore (lv' := [vR a0, vI a1, vI a2, vR a3, vA q5]) (pc := 13) dL_sign_13 rfl ?_
    refine G_iconst (pc := 15) dL_sign_15 ?_
    exact G_iret (pc := 16) dL_sign_16
  · refine G_xastore (lv' := [vR a0, vI a1, vI a2, vR a3, vA q7]) (pc := 17) dL_sign_17 rfl ?_
    refine G_iconst (pc := 19) dL_sign_19 ?_
    exact G_iret (pc := 20) dL_sign_20
def fL_line (fu : Nat) (s : z_M) (a0 : Int) (a1 : Int) (a2 : Int) (a3 : Int) : z_O := if z_ob a0 11 then z_cI (fX11_line fu s a0 a1 a2) (fun x2 s1 => if z_ix a3 101 0 then z_let (z_up s1 a3 0 x2) (fun s3 => some (vI 0, s3)) else none) (fun s4 => some (vI 1, s4)) (fun s6 => some (vI 2, s6)) else none
theorem gL_line {l : Launch} {K : z_K} (hst : l.stackTraces = false) (fu : Nat) (s : z_M) (a0 : Int) (a1 : Int) (a2 : Int) (a3 : Int) : z_D l K mL_line 8 194 2 12 [vR a0, vI a1, vI a2, vR a3] s (fL_line fu s a0 a1 a2 a3) := by
  refine z_D_of (lv := [vR a0, vI a1, vI a2, vR a3, vU]) hst z_mL_line rfl ?_ (Nat.le_of_ble_eq_true rfl) rfl
  unfold fL_line
  refine G_aload_n (x := a3) (pc := 0) dL_line_0 rfl ?_
  refine G_iconst (pc := 1) dL_line_1 ?_
  refine G_aload_n (x := a0) (pc := 2) dL_line_2 rfl ?_
  refine G_iload_n (x := a1) (pc := 3) dL_line_3 rfl ?_
  refine G_iload_n (x := a2) (pc := 4) dL_line_4 rfl ?_
  refine G_ccI (as := [vI a1, vI a2]) (st := [vI 0, vR a3]) (c := 11) (bc2 := 0) (bs2 := 0) (pc := 5) dL_line_5 z_mX11_line z_vX11_line z_wL_37 (gX11_line hst fu s a0 a1 a2) rfl rfl (by decide) rfl rfl ⟨by decide, by decide, by decide, by decide, Nat.le_of_ble_eq_true rfl⟩ (fun x2 s1 => ?_) (fun s4 => GX_1 (x := 0) rfl (Or.inl rfl) z_wL_25 (by decide) (by decide) (fun q5 => ?_)) (fun s6 => GX_2 (x := 1) (x2 := 0) rfl (Or.inr ⟨rfl, rfl⟩) z_wL_13 z_wL_25 (by decide) (by decide) (by decide) (fun q7 => ?_))
  · refine G_i2l (pc := 8) dL_line_8 ?_
    refine G_last (pc := 9) dL_line_9 (fun s3 => ?_)
    refine G_goto (tgt := 21) (pc := 10) dL_line_10 ?_
    refine G_iconst (pc := 21) dL_line_21 ?_
    exact G_iret (pc := 22) dL_line_22
  · refine G_xastore (lv' := [vR a0, vI a1, vI a2, vR a3, vA q5]) (pc := 13) dL_line_13 rfl ?_
    refine G_iconst (pc := 15) dL_line_15 ?_
    exact G_iret (pc := 16) dL_line_16
  · refine G_xastore (lv' := [vR a0, vI a1, vI a2, vR a3, vA q7]) (pc := 17) dL_line_17 rfl ?_
    refine G_iconst (pc := 19) dL_line_19 ?_
    exact G_iret (pc := 20) dL_line_20
def fL_block (fu : Nat) (s : z_M) (a0 : Int) (a1 : Int) (a2 : Int) (a3 : Int) : z_O := if z_ob a0 11 then z_cI (fX11_block fu s a0 a1 a2) (fun x2 s1 => if z_ix a3 101 0 then z_let (z_up s1 a3 0 x2) (fun s3 => some (vI 0, s3)) else none) (fun s4 => some (vI 1, s4)) (fun s6 => some (vI 2, s6)) else none
theorem gL_block {l : Launch} {K : z_K} (hst : l.stackTraces = false) (fu : Nat) (s : z_M) (a0 : Int) (a1 : Int) (a2 : Int) (a3 : Int) : z_D l K mL_block 8 195 2 12 [vR a0, vI a1, vI a2, vR a3] s (fL_block fu s a0 a1 a2 a3) := by
  refine z_D_of (lv := [vR a0, vI a1, vI a2, vR a3, vU]) hst z_mL_block rfl ?_ (Nat.le_of_ble_eq_true rfl) rfl
  unfold fL_block
  refine G_aload_n (x := a3) (pc := 0) dL_block_0 rfl ?_
  refine G_iconst (pc := 1) dL_block_1 ?_
  refine G_aload_n (x := a0) (pc := 2) dL_block_2 rfl ?_
  refine G_iload_n (x := a1) (pc := 3) dL_block_3 rfl ?_
  refine G_iload_n (x := a2) (pc := 4) dL_block_4 rfl ?_
  refine G_ccI (as := [vI a1, vI a2]) (st := [vI 0, vR a3]) (c := 11) (bc2 := 0) (bs2 := 0) (pc := 5) dL_block_5 z_mX11_block z_vX11_block z_wL_40 (gX11_block hst fu s a0 a1 a2) rfl rfl (by decide) rfl rfl ⟨by decide, by decide, by decide, by decide, Nat.le_of_ble_eq_true rfl⟩ (fun x2 s1 => ?_) (fun s4 => GX_1 (x := 0) rfl (Or.inl rfl) z_wL_25 (by decide) (by decide) (fun q5 => ?_)) (fun s6 => GX_2 (x := 1) (x2 := 0) rfl (Or.inr ⟨rfl, rfl⟩) z_wL_13 z_wL_25 (by decide) (by decide) (by decide) (fun q7 => ?_))
  · refine G_i2l (pc := 8) dL_block_8 ?_
    refine G_last (pc := 9) dL_block_9 (fun s3 => ?_)
    refine G_goto (tgt := 21) (pc := 10) dL_block_10 ?_
    refine G_iconst (pc := 21) dL_block_21 ?_
    exact G_iret (pc := 22) dL_block_22
  · refine G_xastore (lv' := [vR a0, vI a1, vI a2, vR a3, vA q5]) (pc := 13) dL_block_13 rfl ?_
    refine G_iconst (pc := 15) dL_block_15 ?_
    exact G_iret (pc := 16) dL_block_16
  · refine G_xastore (lv' := [vR a0, vI a1, vI a2, vR a3, vA q7]) (pc := 17) dL_block_17 rfl ?_
    refine G_iconst (pc := 19) dL_block_19 ?_
    exact G_iret (pc := 20) dL_block_20
def fL_reading (fu : Nat) (s : z_M) (a0 : Int) (a1 : Int) (a2 : Int) (a3 : Int) (a4 : Int) (a5 : Int) : z_O := if z_ob a0 11 then z_cI (fX11_reading fu s a0 a1 a2 a3 a4) (fun x2 s1 => if z_ix a5 101 0 then z_let (z_up s1 a5 0 x2) (fun s3 => some (vI 0, s3)) else none) (fun s4 => some (vI 1, s4)) (fun s6 => some (vI 2, s6)) else none
theorem gL_reading {l : Launch} {K : z_K} (hst : l.stackTraces = false) (fu : Nat) (s : z_M) (a0 : Int) (a1 : Int) (a2 : Int) (a3 : Int) (a4 : Int) (a5 : Int) : z_D l K mL_reading 8 197 4 24 [vR a0, vI a1, vI a2, vI a3, vI a4, vR a5] s (fL_reading fu s a0 a1 a2 a3 a4 a5) := by
  refine z_D_of (lv := [vR a0, vI a1, vI a2, vI a3, vI a4, vR a5, vU]) hst z_mL_reading rfl ?_ (Nat.le_of_ble_eq_true rfl) rfl
  unfold fL_reading
  refine G_aload (x := a5) (pc := 0) dL_reading_0 rfl ?_
  refine G_iconst (pc := 2) dL_reading_2 ?_
  refine G_aload_n (x := a0) (pc := 3) dL_reading_3 rfl ?_
  refine G_iload_n (x := a1) (pc := 4) dL_reading_4 rfl ?_
  refine G_iload_n (x := a2) (pc := 5) dL_reading_5 rfl ?_
  refine G_iload_n (x := a3) (pc := 6) dL_reading_6 rfl ?_
  refine G_iload (x := a4) (pc := 7) dL_reading_7 rfl ?_
  refine G_ccI (as := [vI a1, vI a2, vI a3, vI a4]) (st := [vI 0, vR a5]) (c := 11) (bc2 := 0) (bs2 := 0) (pc := 9) dL_reading_9 z_mX11_reading z_vX11_reading z_wL_43 (gX11_reading hst fu s a0 a1 a2 a3 a4) rfl rfl (by decide) rfl rfl ⟨by decide, by decide, by decide, by decide, Nat.le_of_ble_eq_true rfl⟩ (fun x2 s1 => ?_) (fun s4 => GX_1 (x := 0) rfl (Or.inl rfl) z_wL_25 (by decide) (by decide) (fun q5 => ?_)) (fun s6 => GX_2 (x := 1) (x2 := 0) rfl (Or.inr ⟨rfl, rfl⟩) z_wL_13 z_wL_25 (by decide) (by decide) (by decide) (fun q7 => ?_))
  · refine G_i2l (pc := 12) dL_reading_12 ?_
    refine G_last (pc := 13) dL_reading_13 (fun s3 => ?_)
    refine G_goto (tgt := 25) (pc := 14) dL_reading_14 ?_
    refine G_iconst (pc := 25) dL_reading_25 ?_
    exact G_iret (pc := 26) dL_reading_26
  · refine G_xastore (lv' := [vR a0, vI a1, vI a2, vI a3, vI a4, vR a5, vA q5]) (pc := 17) dL_reading_17 rfl ?_
    refine G_iconst (pc := 19) dL_reading_19 ?_
    exact G_iret (pc := 20) dL_reading_20
  · refine G_xastore (lv' := [vR a0, vI a1, vI a2, vI a3, vI a4, vR a5, vA q7]) (pc := 21) dL_reading_21 rfl ?_
    refine G_iconst (pc := 23) dL_reading_23 ?_
    exact G_iret (pc := 24) dL_reading_24
def fL_run (fu : Nat) (s : z_M) (a0 : Int) (a1 : Int) (a2 : Int) (a3 : Int) : z_O := if z_ob a0 11 then z_cI (fX11_run fu s a0 a1 a2) (fun x2 s1 => if z_ix a3 101 0 then z_let (z_up s1 a3 0 x2) (fun s3 => some (vI 0, s3)) else none) (fun _ => none) (fun s4 => some (vI 1, s4)) else none
theorem gL_run {l : Launch} {K : z_K} (hst : l.stackTraces = false) (fu : Nat) (s : z_M) (a0 : Int) (a1 : Int) (a2 : Int) (a3 : Int) : z_D l K mL_run 8 198 1 6 [vR a0, vI a1, vI a2, vR a3] s (fL_run fu s a0 a1 a2 a3) := by
  refine z_D_of (lv := [vR a0, vI a1, vI a2, vR a3, vU]) hst z_mL_run rfl ?_ (Nat.le_of_ble_eq_true rfl) rfl
  unfold fL_run
  refine G_aload_n (x := a3) (pc := 0) dL_run_0 rfl ?_
  refine G_iconst (pc := 1) dL_run_1 ?_
  refine G_aload_n (x := a0) (pc := 2) dL_run_2 rfl ?_
  refine G_iload_n (x := a1) (pc := 3) dL_run_3 rfl ?_
  refine G_iload_n (x := a2) (pc := 4) dL_run_4 rfl ?_
  refine G_ccI (as := [vI a1, vI a2]) (st := [vI 0, vR a3]) (c := 11) (bc2 := 0) (bs2 := 0) (pc := 5) dL_run_5 z_mX11_run z_vX11_run z_wL_47 (gX11_run hst fu s a0 a1 a2) rfl rfl (by decide) rfl rfl ⟨by decide, by decide, by decide, by decide, Nat.le_of_ble_eq_true rfl⟩ (fun x2 s1 => ?_) (fun _ h => absurd rfl h) (fun s4 => GX_1 (x := 1) rfl (Or.inr rfl) z_wL_13 (by decide) (by decide) (fun q5 => ?_))
  · refine G_i2l (pc := 8) dL_run_8 ?_
    refine G_last (pc := 9) dL_run_9 (fun s3 => ?_)
    refine G_goto (tgt := 17) (pc := 10) dL_run_10 ?_
    refine G_iconst (pc := 17) dL_run_17 ?_
    exact G_iret (pc := 18) dL_run_18
  · refine G_xastore (lv' := [vR a0, vI a1, vI a2, vR a3, vA q5]) (pc := 13) dL_run_13 rfl ?_
    refine G_iconst (pc := 15) dL_run_15 ?_
    exact G_iret (pc := 16) dL_run_16
def fL_at (fu : Nat) (s : z_M) (a0 : Int) (a1 : Int) (a2 : Int) (a3 : Int) : z_O := if z_ob a0 11 then z_cI (fX11_at fu s a0 a1 a2) (fun x2 s1 => if z_ix a3 101 0 then z_let (z_up s1 a3 0 x2) (fun s3 => some (vI 0, s3)) else none) (fun s4 => some (vI 1, s4)) (fun _ => none) else none
theorem gL_at {l : Launch} {K : z_K} (hst : l.stackTraces = false) (fu : Nat) (s : z_M) (a0 : Int) (a1 : Int) (a2 : Int) (a3 : Int) : z_D l K mL_at 8 194 1 6 [vR a0, vI a1, vI a2, vR a3] s (fL_at fu s a0 a1 a2 a3) := by
  refine z_D_of (lv := [vR a0, vI a1, vI a2, vR a3, vU]) hst z_mL_at rfl ?_ (Nat.le_of_ble_eq_true rfl) rfl
  unfold fL_at
  refine G_aload_n (x := a3) (pc := 0) dL_at_0 rfl ?_
  refine G_iconst (pc := 1) dL_at_1 ?_
  refine G_aload_n (x := a0) (pc := 2) dL_at_2 rfl ?_
  refine G_iload_n (x := a1) (pc := 3) dL_at_3 rfl ?_
  refine G_iload_n (x := a2) (pc := 4) dL_at_4 rfl ?_
  refine G_ccI (as := [vI a1, vI a2]) (st := [vI 0, vR a3]) (c := 11) (bc2 := 0) (bs2 := 0) (pc := 5) dL_at_5 z_mX11_at z_vX11_at z_wL_50 (gX11_at hst fu s a0 a1 a2) rfl rfl (by decide) rfl rfl ⟨by decide, by decide, by decide, by decide, Nat.le_of_ble_eq_true rfl⟩ (fun x2 s1 => ?_) (fun s4 => GX_1 (x := 0) rfl (Or.inl rfl) z_wL_25 (by decide) (by decide) (fun q5 => ?_)) (fun _ h => absurd rfl h)
  · refine G_i2l (pc := 8) dL_at_8 ?_
    refine G_last (pc := 9) dL_at_9 (fun s3 => ?_)
    refine G_goto (tgt := 17) (pc := 10) dL_at_10 ?_
    refine G_iconst (pc := 17) dL_at_17 ?_
    exact G_iret (pc := 18) dL_at_18
  · refine G_xastore (lv' := [vR a0, vI a1, vI a2, vR a3, vA q5]) (pc := 13) dL_at_13 rfl ?_
    refine G_iconst (pc := 15) dL_at_15 ?_
    exact G_iret (pc := 16) dL_at_16
def fL_ends_J15 (fu : Nat) (s : z_M) (t0 : Int) (t1 : Int) (t2 : Int) : z_O := if z_ix t0 101 t1 then z_let (z_up s t0 t1 t2) (fun s3 => some (vI 0, s3)) else none
theorem gL_ends_J15 {l : Launch} {K : z_K} (hst : l.stackTraces = false) (fu : Nat) (s : z_M) (t0 : Int) (t1 : Int) (t2 : Int) : G l K mL_ends 8 193 0 0 15 [vU, vU, vU, vU] [vL t2, vI t1, vR t0] s (fL_ends_J15 fu s t0 t1 t2) := by
  unfold fL_ends_J15
  refine G_last (pc := 15) dL_ends_15 (fun s3 => ?_)
  refine G_goto (tgt := 22) (pc := 16) dL_ends_16 ?_
  refine G_iconst (pc := 22) dL_ends_22 ?_
  exact G_iret (pc := 23) dL_ends_23
def fL_ends (fu : Nat) (s : z_M) (a0 : Int) (a1 : Int) (a2 : Int) : z_O := if z_ob a0 11 then z_cI (fX11_ends fu s a0 a1) (fun x2 s1 => if (x2 : Int) = 0 then (fL_ends_J15 fu s1 a2 0 0) else (fL_ends_J15 fu s1 a2 0 1)) (fun s4 => some (vI 1, s4)) (fun _ => none) else none
theorem gL_ends {l : Launch} {K : z_K} (hst : l.stackTraces = false) (fu : Nat) (s : z_M) (a0 : Int) (a1 : Int) (a2 : Int) : z_D l K mL_ends 8 193 1 6 [vR a0, vI a1, vR a2] s (fL_ends fu s a0 a1 a2) := by
  refine z_D_of (lv := [vR a0, vI a1, vR a2, vU]) hst z_mL_ends rfl ?_ (Nat.le_of_ble_eq_true rfl) rfl
  unfold fL_ends
  refine G_aload_n (x := a2) (pc := 0) dL_ends_0 rfl ?_
  refine G_iconst (pc := 1) dL_ends_1 ?_
  refine G_aload_n (x := a0) (pc := 2) dL_ends_2 rfl ?_
  refine G_iload_n (x := a1) (pc := 3) dL_ends_3 rfl ?_
  refine G_ccI (as := [vI a1]) (st := [vI 0, vR a2]) (c := 11) (bc2 := 0) (bs2 := 0) (pc := 4) dL_ends_4 z_mX11_ends z_vX11_ends z_wL_53 (gX11_ends hst fu s a0 a1) rfl rfl (by decide) rfl rfl ⟨by decide, by decide, by decide, by decide, Nat.le_of_ble_eq_true rfl⟩ (fun x2 s1 => ?_) (fun s4 => GX_1 (x := 0) rfl (Or.inl rfl) z_wL_25 (by decide) (by decide) (fun q5 => ?_)) (fun _ h => absurd rfl h)
  · refine G_if_eq (tgt := 14) (pc := 7) dL_ends_7 ?_ ?_
    · refine G_lconst (y := 0) (pc := 14) dL_ends_14 ?_
      refine G_fg (lv2 := [vU, vU, vU, vU]) ⟨Or.inl rfl, Or.inl rfl, Or.inl rfl, Or.inl rfl, trivial⟩ ?_
      exact gL_ends_J15 hst fu s1 a2 0 0
    · refine G_lconst (y := 1) (pc := 10) dL_ends_10 ?_
      refine G_goto (tgt := 15) (pc := 11) dL_ends_11 ?_
      refine G_fg (lv2 := [vU, vU, vU, vU]) ⟨Or.inl rfl, Or.inl rfl, Or.inl rfl, Or.inl rfl, trivial⟩ ?_
      exact gL_ends_J15 hst fu s1 a2 0 1
  · refine G_xastore_n (lv' := [vR a0, vI a1, vR a2, vA q5]) (pc := 19) dL_ends_19 rfl ?_
    refine G_iconst (pc := 20) dL_ends_20 ?_
    exact G_iret (pc := 21) dL_ends_21
def fL_longOf (fu : Nat) (s : z_M) (a0 : Int) (a1 : Int) (a2 : Int) (a3 : Int) : z_O := if z_ob a0 11 then z_cI (fX11_longOf fu s a0 a1 a2) (fun x2 s1 => if z_ix a3 101 0 then z_let (z_up s1 a3 0 x2) (fun s3 => some (vI 0, s3)) else none) (fun s4 => some (vI 1, s4)) (fun s6 => some (vI 2, s6)) else none
theorem gL_longOf {l : Launch} {K : z_K} (hst : l.stackTraces = false) (fu : Nat) (s : z_M) (a0 : Int) (a1 : Int) (a2 : Int) (a3 : Int) : z_D l K mL_longOf 8 194 3 18 [vR a0, vI a1, vI a2, vR a3] s (fL_longOf fu s a0 a1 a2 a3) := by
  refine z_D_of (lv := [vR a0, vI a1, vI a2, vR a3, vU]) hst z_mL_longOf rfl ?_ (Nat.le_of_ble_eq_true rfl) rfl
  unfold fL_longOf
  refine G_aload_n (x := a3) (pc := 0) dL_longOf_0 rfl ?_
  refine G_iconst (pc := 1) dL_longOf_1 ?_
  refine G_aload_n (x := a0) (pc := 2) dL_longOf_2 rfl ?_
  refine G_iload_n (x := a1) (pc := 3) dL_longOf_3 rfl ?_
  refine G_iload_n (x := a2) (pc := 4) dL_longOf_4 rfl ?_
  refine G_ccI (as := [vI a1, vI a2]) (st := [vI 0, vR a3]) (c := 11) (bc2 := 0) (bs2 := 0) (pc := 5) dL_longOf_5 z_mX11_longOf z_vX11_longOf z_wL_57 (gX11_longOf hst fu s a0 a1 a2) rfl rfl (by decide) rfl rfl ⟨by decide, by decide, by decide, by decide, Nat.le_of_ble_eq_true rfl⟩ (fun x2 s1 => ?_) (fun s4 => GX_1 (x := 0) rfl (Or.inl rfl) z_wL_25 (by decide) (by decide) (fun q5 => ?_)) (fun s6 => GX_2 (x := 1) (x2 := 0) rfl (Or.inr ⟨rfl, rfl⟩) z_wL_13 z_wL_25 (by decide) (by decide) (by decide) (fun q7 => ?_))
  · refine G_i2l (pc := 8) dL_longOf_8 ?_
    refine G_last (pc := 9) dL_longOf_9 (fun s3 => ?_)
    refine G_goto (tgt := 21) (pc := 10) dL_longOf_10 ?_
    refine G_iconst (pc := 21) dL_longOf_21 ?_
    exact G_iret (pc := 22) dL_longOf_22
  · refine G_xastore (lv' := [vR a0, vI a1, vI a2, vR a3, vA q5]) (pc := 13) dL_longOf_13 rfl ?_
    refine G_iconst (pc := 15) dL_longOf_15 ?_
    exact G_iret (pc := 16) dL_longOf_16
  · refine G_xastore (lv' := [vR a0, vI a1, vI a2, vR a3, vA q7]) (pc := 17) dL_longOf_17 rfl ?_
    refine G_iconst (pc := 19) dL_longOf_19 ?_
    exact G_iret (pc := 20) dL_longOf_20
def fL_lines (fu : Nat) (s : z_M) (a0 : Int) (a1 : Int) (a2 : Int) (a3 : Int) : z_O := if z_ob a0 11 then z_cI (fX11_lines fu s a0 a1 a2) (fun x2 s1 => if z_ix a3 101 0 then z_let (z_up s1 a3 0 x2) (fun s3 => some (vI 0, s3)) else none) (fun _ => none) (fun s4 => some (vI 1, s4)) else none
theorem gL_lines {l : Launch} {K : z_K} (hst : l.stackTraces = false) (fu : Nat) (s : z_M) (a0 : Int) (a1 : Int) (a2 : Int) (a3 : Int) : z_D l K mL_lines 8 194 2 12 [vR a0, vI a1, vI a2, vR a3] s (fL_lines fu s a0 a1 a2 a3) := by
  refine z_D_of (lv := [vR a0, vI a1, vI a2, vR a3, vU]) hst z_mL_lines rfl ?_ (Nat.le_of_ble_eq_true rfl) rfl
  unfold fL_lines
  refine G_aload_n (x := a3) (pc := 0) dL_lines_0 rfl ?_
  refine G_iconst (pc := 1) dL_lines_1 ?_
  refine G_aload_n (x := a0) (pc := 2) dL_lines_2 rfl ?_
  refine G_iload_n (x := a1) (pc := 3) dL_lines_3 rfl ?_
  refine G_iload_n (x := a2) (pc := 4) dL_lines_4 rfl ?_
  refine G_ccI (as := [vI a1, vI a2]) (st := [vI 0, vR a3]) (c := 11) (bc2 := 0) (bs2 := 0) (pc := 5) dL_lines_5 z_mX11_lines z_vX11_lines z_wL_60 (gX11_lines hst fu s a0 a1 a2) rfl rfl (by decide) rfl rfl ⟨by decide, by decide, by decide, by decide, Nat.le_of_ble_eq_true rfl⟩ (fun x2 s1 => ?_) (fun _ h => absurd rfl h) (fun s4 => GX_1 (x := 1) rfl (Or.inr rfl) z_wL_13 (by decide) (by decide) (fun q5 => ?_))
  · refine G_i2l (pc := 8) dL_lines_8 ?_
    refine G_last (pc := 9) dL_lines_9 (fun s3 => ?_)
    refine G_goto (tgt := 17) (pc := 10) dL_lines_10 ?_
    refine G_iconst (pc := 17) dL_lines_17 ?_
    exact G_iret (pc := 18) dL_lines_18
  · refine G_xastore (lv' := [vR a0, vI a1, vI a2, vR a3, vA q5]) (pc := 13) dL_lines_13 rfl ?_
    refine G_iconst (pc := 15) dL_lines_15 ?_
    exact G_iret (pc := 16) dL_lines_16
def fL_least (fu : Nat) (s : z_M) (a0 : Int) (a1 : Int) (a2 : Int) : z_O := if z_ob a0 11 then z_cI (fX11_least fu s a0 a1) (fun x2 s1 => if z_ix a2 101 0 then z_let (z_up s1 a2 0 x2) (fun s3 => some (vI 0, s3)) else none) (fun _ => none) (fun s4 => some (vI 1, s4)) else none
theorem gL_least {l : Launch} {K : z_K} (hst : l.stackTraces = false) (fu : Nat) (s : z_M) (a0 : Int) (a1 : Int) (a2 : Int) : z_D l K mL_least 8 196 1 6 [vR a0, vI a1, vR a2] s (fL_least fu s a0 a1 a2) := by
  refine z_D_of (lv := [vR a0, vI a1, vR a2, vU]) hst z_mL_least rfl ?_ (Nat.le_of_ble_eq_true rfl) rfl
  unfold fL_least
  refine G_aload_n (x := a2) (pc := 0) dL_least_0 rfl ?_
  refine G_iconst (pc := 1) dL_least_1 ?_
  refine G_aload_n (x := a0) (pc := 2) dL_least_2 rfl ?_
  refine G_iload_n (x := a1) (pc := 3) dL_least_3 rfl ?_
  refine G_ccI (as := [vI a1]) (st := [vI 0, vR a2]) (c := 11) (bc2 := 0) (bs2 := 0) (pc := 4) dL_least_4 z_mX11_least z_vX11_least z_wL_63 (gX11_least hst fu s a0 a1) rfl rfl (by decide) rfl rfl ⟨by decide, by decide, by decide, by decide, Nat.le_of_ble_eq_true rfl⟩ (fun x2 s1 => ?_) (fun _ h => absurd rfl h) (fun s4 => GX_1 (x := 1) rfl (Or.inr rfl) z_wL_13 (by decide) (by decide) (fun q5 => ?_))
  · refine G_i2l (pc := 7) dL_least_7 ?_
    refine G_last (pc := 8) dL_least_8 (fun s3 => ?_)
    refine G_goto (tgt := 15) (pc := 9) dL_least_9 ?_
    refine G_iconst (pc := 15) dL_least_15 ?_
    exact G_iret (pc := 16) dL_least_16
  · refine G_xastore_n (lv' := [vR a0, vI a1, vR a2, vA q5]) (pc := 12) dL_least_12 rfl ?_
    refine G_iconst (pc := 13) dL_least_13 ?_
    exact G_iret (pc := 14) dL_least_14
def fL_marks (fu : Nat) (s : z_M) (a0 : Int) (a1 : Int) (a2 : Int) : z_O := if z_ob a0 11 then z_cI (fX11_marks fu s a0 a1) (fun x2 s1 => if z_ix a2 101 0 then z_let (z_up s1 a2 0 x2) (fun s3 => some (vI 0, s3)) else none) (fun _ => none) (fun s4 => some (vI 1, s4)) else none
theorem gL_marks {l : Launch} {K : z_K} (hst : l.stackTraces = false) (fu : Nat) (s : z_M) (a0 : Int) (a1 : Int) (a2 : Int) : z_D l K mL_marks 8 193 1 6 [vR a0, vI a1, vR a2] s (fL_marks fu s a0 a1 a2) := by
  refine z_D_of (lv := [vR a0, vI a1, vR a2, vU]) hst z_mL_marks rfl ?_ (Nat.le_of_ble_eq_true rfl) rfl
  unfold fL_marks
  refine G_aload_n (x := a2) (pc := 0) dL_marks_0 rfl ?_
  refine G_iconst (pc := 1) dL_marks_1 ?_
  refine G_aload_n (x := a0) (pc := 2) dL_marks_2 rfl ?_
  refine G_iload_n (x := a1) (pc := 3) dL_marks_3 rfl ?_
  refine G_ccI (as := [vI a1]) (st := [vI 0, vR a2]) (c := 11) (bc2 := 0) (bs2 := 0) (pc := 4) dL_marks_4 z_mX11_marks z_vX11_marks z_wL_66 (gX11_marks hst fu s a0 a1) rfl rfl (by decide) rfl rfl ⟨by decide, by decide, by decide, by decide, Nat.le_of_ble_eq_true rfl⟩ (fun x2 s1 => ?_) (fun _ h => absurd rfl h) (fun s4 => GX_1 (x := 1) rfl (Or.inr rfl) z_wL_13 (by decide) (by decide) (fun q5 => ?_))
  · refine G_i2l (pc := 7) dL_marks_7 ?_
    refine G_last (pc := 8) dL_marks_8 (fun s3 => ?_)
    refine G_goto (tgt := 15) (pc := 9) dL_marks_9 ?_
    refine G_iconst (pc := 15) dL_marks_15 ?_
    exact G_iret (pc := 16) dL_marks_16
  · refine G_xastore_n (lv' := [vR a0, vI a1, vR a2, vA q5]) (pc := 12) dL_marks_12 rfl ?_
    refine G_iconst (pc := 13) dL_marks_13 ?_
    exact G_iret (pc := 14) dL_marks_14
def fL_lend (fu : Nat) (s : z_M) (a0 : Int) (a1 : Int) (a2 : Int) : z_O := if z_ob a0 11 then z_cI (fX11_lend fu s a0 a1) (fun x2 s1 => if z_ix a2 101 0 then z_let (z_up s1 a2 0 x2) (fun s3 => some (vI 0, s3)) else none) (fun _ => none) (fun s4 => some (vI 1, s4)) else none
theorem gL_lend {l : Launch} {K : z_K} (hst : l.stackTraces = false) (fu : Nat) (s : z_M) (a0 : Int) (a1 : Int) (a2 : Int) : z_D l K mL_lend 8 197 1 6 [vR a0, vI a1, vR a2] s (fL_lend fu s a0 a1 a2) := by
  refine z_D_of (lv := [vR a0, vI a1, vR a2, vU]) hst z_mL_lend rfl ?_ (Nat.le_of_ble_eq_true rfl) rfl
  unfold fL_lend
  refine G_aload_n (x := a2) (pc := 0) dL_lend_0 rfl ?_
  refine G_iconst (pc := 1) dL_lend_1 ?_
  refine G_aload_n (x := a0) (pc := 2) dL_lend_2 rfl ?_
  refine G_iload_n (x := a1) (pc := 3) dL_lend_3 rfl ?_
  refine G_ccI (as := [vI a1]) (st := [vI 0, vR a2]) (c := 11) (bc2 := 0) (bs2 := 0) (pc := 4) dL_lend_4 z_mX11_lend z_vX11_lend z_wL_69 (gX11_lend hst fu s a0 a1) rfl rfl (by decide) rfl rfl ⟨by decide, by decide, by decide, by decide, Nat.le_of_ble_eq_true rfl⟩ (fun x2 s1 => ?_) (fun _ h => absurd rfl h) (fun s4 => GX_1 (x := 1) rfl (Or.inr rfl) z_wL_13 (by decide) (by decide) (fun q5 => ?_))
  · refine G_i2l (pc := 7) dL_lend_7 ?_
    refine G_last (pc := 8) dL_lend_8 (fun s3 => ?_)
    refine G_goto (tgt := 15) (pc := 9) dL_lend_9 ?_
    refine G_iconst (pc := 15) dL_lend_15 ?_
    exact G_iret (pc := 16) dL_lend_16
  · refine G_xastore_n (lv' := [vR a0, vI a1, vR a2, vA q5]) (pc := 12) dL_lend_12 rfl ?_
    refine G_iconst (pc := 13) dL_lend_13 ?_
    exact G_iret (pc := 14) dL_lend_14
def fL_nearest (fu : Nat) (s : z_M) (a0 : Int) (a1 : Int) (a2 : Int) : z_O := if z_ob a0 11 then z_cI (fX11_nearest fu s a0 a1) (fun x2 s1 => if z_ix a2 101 0 then z_let (z_up s1 a2 0 x2) (fun s3 => some (vI 0, s3)) else none) (fun _ => none) (fun s4 => some (vI 1, s4)) else none
theorem gL_nearest {l : Launch} {K : z_K} (hst : l.stackTraces = false) (fu : Nat) (s : z_M) (a0 : Int) (a1 : Int) (a2 : Int) : z_D l K mL_nearest 8 197 1 6 [vR a0, vI a1, vR a2] s (fL_nearest fu s a0 a1 a2) := by
  refine z_D_of (lv := [vR a0, vI a1, vR a2, vU]) hst z_mL_nearest rfl ?_ (Nat.le_of_ble_eq_true rfl) rfl
  unfold fL_nearest
  refine G_aload_n (x := a2) (pc := 0) dL_nearest_0 rfl ?_
  refine G_iconst (pc := 1) dL_nearest_1 ?_
  refine G_aload_n (x := a0) (pc := 2) dL_nearest_2 rfl ?_
  refine G_iload_n (x := a1) (pc := 3) dL_nearest_3 rfl ?_
  refine G_ccI (as := [vI a1]) (st := [vI 0, vR a2]) (c := 11) (bc2 := 0) (bs2 := 0) (pc := 4) dL_nearest_4 z_mX11_nearest z_vX11_nearest z_wL_72 (gX11_nearest hst fu s a0 a1) rfl rfl (by decide) rfl rfl ⟨by decide, by decide, by decide, by decide, Nat.le_of_ble_eq_true rfl⟩ (fun x2 s1 => ?_) (fun _ h => absurd rfl h) (fun s4 => GX_1 (x := 1) rfl (Or.inr rfl) z_wL_13 (by decide) (by decide) (fun q5 => ?_))
  · refine G_i2l (pc := 7) dL_nearest_7 ?_
    refine G_last (pc := 8) dL_nearest_8 (fun s3 => ?_)
    refine G_goto (tgt := 15) (pc := 9) dL_nearest_9 ?_
    refine G_iconst (pc := 15) dL_nearest_15 ?_
    exact G_iret (pc := 16) dL_nearest_16
  · refine G_xastore_n (lv' := [vR a0, vI a1, vR a2, vA q5]) (pc := 12) dL_nearest_12 rfl ?_
    refine G_iconst (pc := 13) dL_nearest_13 ?_
    exact G_iret (pc := 14) dL_nearest_14
def fL_partner (fu : Nat) (s : z_M) (a0 : Int) (a1 : Int) (a2 : Int) : z_O := if z_ob a0 11 then z_cI (fX11_partner fu s a0 a1) (fun x2 s1 => if z_ix a2 101 0 then z_let (z_up s1 a2 0 x2) (fun s3 => some (vI 0, s3)) else none) (fun s4 => some (vI 1, s4)) (fun _ => none) else none
theorem gL_partner {l : Launch} {K : z_K} (hst : l.stackTraces = false) (fu : Nat) (s : z_M) (a0 : Int) (a1 : Int) (a2 : Int) : z_D l K mL_partner 8 193 1 6 [vR a0, vI a1, vR a2] s (fL_partner fu s a0 a1 a2) := by
  refine z_D_of (lv := [vR a0, vI a1, vR a2, vU]) hst z_mL_partner rfl ?_ (Nat.le_of_ble_eq_true rfl) rfl
  unfold fL_partner
  refine G_aload_n (x := a2) (pc := 0) dL_partner_0 rfl ?_
  refine G_iconst (pc := 1) dL_partner_1 ?_
  refine G_aload_n (x := a0) (pc := 2) dL_partner_2 rfl ?_
  refine G_iload_n (x := a1) (pc := 3) dL_partner_3 rfl ?_
  refine G_ccI (as := [vI a1]) (st := [vI 0, vR a2]) (c := 11) (bc2 := 0) (bs2 := 0) (pc := 4) dL_partner_4 z_mX11_partner z_vX11_partner z_wL_75 (gX11_partner hst fu s a0 a1) rfl rfl (by decide) rfl rfl ⟨by decide, by decide, by decide, by decide, Nat.le_of_ble_eq_true rfl⟩ (fun x2 s1 => ?_) (fun s4 => GX_1 (x := 0) rfl (Or.inl rfl) z_wL_25 (by decide) (by decide) (fun q5 => ?_)) (fun _ h => absurd rfl h)
  · refine G_i2l (pc := 7) dL_partner_7 ?_
    refine G_last (pc := 8) dL_partner_8 (fun s3 => ?_)
    refine G_goto (tgt := 15) (pc := 9) dL_partner_9 ?_
    refine G_iconst (pc := 15) dL_partner_15 ?_
    exact G_iret (pc := 16) dL_partner_16
  · refine G_xastore_n (lv' := [vR a0, vI a1, vR a2, vA q5]) (pc := 12) dL_partner_12 rfl ?_
    refine G_iconst (pc := 13) dL_partner_13 ?_
    exact G_iret (pc := 14) dL_partner_14
def fL_side (fu : Nat) (s : z_M) (a0 : Int) (a1 : Int) (a2 : Int) (a3 : Int) (a4 : Int) : z_O := if z_ob a0 11 then z_cI (fX11_side fu s a0 a1 a2 a3) (fun x2 s1 => if z_ix a4 101 0 then z_let (z_up s1 a4 0 x2) (fun s3 => some (vI 0, s3)) else none) (fun s4 => some (vI 1, s4)) (fun s6 => some (vI 2, s6)) else none
theorem gL_side {l : Launch} {K : z_K} (hst : l.stackTraces = false) (fu : Nat) (s : z_M) (a0 : Int) (a1 : Int) (a2 : Int) (a3 : Int) (a4 : Int) : z_D l K mL_side 8 195 3 18 [vR a0, vI a1, vI a2, vI a3, vR a4] s (fL_side fu s a0 a1 a2 a3 a4) := by
  refine z_D_of (lv := [vR a0, vI a1, vI a2, vI a3, vR a4, vU]) hst z_mL_side rfl ?_ (Nat.le_of_ble_eq_true rfl) rfl
  unfold fL_side
  refine G_aload (x := a4) (pc := 0) dL_side_0 rfl ?_
  refine G_iconst (pc := 2) dL_side_2 ?_
  refine G_aload_n (x := a0) (pc := 3) dL_side_3 rfl ?_
  refine G_iload_n (x := a1) (pc := 4) dL_side_4 rfl ?_
  refine G_iload_n (x := a2) (pc := 5) dL_side_5 rfl ?_
  refine G_iload_n (x := a3) (pc := 6) dL_side_6 rfl ?_
  refine G_ccI (as := [vI a1, vI a2, vI a3]) (st := [vI 0, vR a4]) (c := 11) (bc2 := 0) (bs2 := 0) (pc := 7) dL_side_7 z_mX11_side z_vX11_side z_wL_78 (gX11_side hst fu s a0 a1 a2 a3) rfl rfl (by decide) rfl rfl ⟨by decide, by decide, by decide, by decide, Nat.le_of_ble_eq_true rfl⟩ (fun x2 s1 => ?_) (fun s4 => GX_1 (x := 0) rfl (Or.inl rfl) z_wL_25 (by decide) (by decide) (fun q5 => ?_)) (fun s6 => GX_2 (x := 1) (x2 := 0) rfl (Or.inr ⟨rfl, rfl⟩) z_wL_13 z_wL_25 (by decide) (by decide) (by decide) (fun q7 => ?_))
  · refine G_i2l (pc := 10) dL_side_10 ?_
    refine G_last (pc := 11) dL_side_11 (fun s3 => ?_)
    refine G_goto (tgt := 23) (pc := 12) dL_side_12 ?_
    refine G_iconst (pc := 23) dL_side_23 ?_
    exact G_iret (pc := 24) dL_side_24
  · refine G_xastore (lv' := [vR a0, vI a1, vI a2, vI a3, vR a4, vA q5]) (pc := 15) dL_side_15 rfl ?_
    refine G_iconst (pc := 17) dL_side_17 ?_
    exact G_iret (pc := 18) dL_side_18
  · refine G_xastore (lv' := [vR a0, vI a1, vI a2, vI a3, vR a4, vA q7]) (pc := 19) dL_side_19 rfl ?_
    refine G_iconst (pc := 21) dL_side_21 ?_
    exact G_iret (pc := 22) dL_side_22
def fL_gutter (fu : Nat) (s : z_M) (a0 : Int) (a1 : Int) (a2 : Int) : z_O := if z_ob a0 11 then z_cI (fX11_gutter fu s a0 a1) (fun x2 s1 => if z_ix a2 101 0 then z_let (z_up s1 a2 0 x2) (fun s3 => some (vI 0, s3)) else none) (fun s4 => some (vI 1, s4)) (fun _ => none) else none
theorem gL_gutter {l : Launch} {K : z_K} (hst : l.stackTraces = false) (fu : Nat) (s : z_M) (a0 : Int) (a1 : Int) (a2 : Int) : z_D l K mL_gutter 8 193 1 6 [vR a0, vI a1, vR a2] s (fL_gutter fu s a0 a1 a2) := by
  refine z_D_of (lv := [vR a0, vI a1, vR a2, vU]) hst z_mL_gutter rfl ?_ (Nat.le_of_ble_eq_true rfl) rfl
  unfold fL_gutter
  refine G_aload_n (x := a2) (pc := 0) dL_gutter_0 rfl ?_
  refine G_iconst (pc := 1) dL_gutter_1 ?_
  refine G_aload_n (x := a0) (pc := 2) dL_gutter_2 rfl ?_
  refine G_iload_n (x := a1) (pc := 3) dL_gutter_3 rfl ?_
  refine G_ccI (as := [vI a1]) (st := [vI 0, vR a2]) (c := 11) (bc2 := 0) (bs2 := 0) (pc := 4) dL_gutter_4 z_mX11_gutter z_vX11_gutter z_wL_82 (gX11_gutter hst fu s a0 a1) rfl rfl (by decide) rfl rfl ⟨by decide, by decide, by decide, by decide, Nat.le_of_ble_eq_true rfl⟩ (fun x2 s1 => ?_) (fun s4 => GX_1 (x := 0) rfl (Or.inl rfl) z_wL_25 (by decide) (by decide) (fun q5 => ?_)) (fun _ h => absurd rfl h)
  · refine G_i2l (pc := 7) dL_gutter_7 ?_
    refine G_last (pc := 8) dL_gutter_8 (fun s3 => ?_)
    refine G_goto (tgt := 15) (pc := 9) dL_gutter_9 ?_
    refine G_iconst (pc := 15) dL_gutter_15 ?_
    exact G_iret (pc := 16) dL_gutter_16
  · refine G_xastore_n (lv' := [vR a0, vI a1, vR a2, vA q5]) (pc := 12) dL_gutter_12 rfl ?_
    refine G_iconst (pc := 13) dL_gutter_13 ?_
    exact G_iret (pc := 14) dL_gutter_14
def fL_clash (fu : Nat) (s : z_M) (a0 : Int) (a1 : Int) (a2 : Int) : z_O := if z_ob a0 11 then z_cI (fX11_clash fu s a0 a1) (fun x2 s1 => if z_ix a2 101 0 then z_let (z_up s1 a2 0 x2) (fun s3 => some (vI 0, s3)) else none) (fun s4 => some (vI 1, s4)) (fun _ => none) else none
theorem gL_clash {l : Launch} {K : z_K} (hst : l.stackTraces = false) (fu : Nat) (s : z_M) (a0 : Int) (a1 : Int) (a2 : Int) : z_D l K mL_clash 8 193 1 6 [vR a0, vI a1, vR a2] s (fL_clash fu s a0 a1 a2) := by
  refine z_D_of (lv := [vR a0, vI a1, vR a2, vU]) hst z_mL_clash rfl ?_ (Nat.le_of_ble_eq_true rfl) rfl
  unfold fL_clash
  refine G_aload_n (x := a2) (pc := 0) dL_clash_0 rfl ?_
  refine G_iconst (pc := 1) dL_clash_1 ?_
  refine G_aload_n (x := a0) (pc := 2) dL_clash_2 rfl ?_
  refine G_iload_n (x := a1) (pc := 3) dL_clash_3 rfl ?_
  refine G_ccI (as := [vI a1]) (st := [vI 0, vR a2]) (c := 11) (bc2 := 0) (bs2 := 0) (pc := 4) dL_clash_4 z_mX11_clash z_vX11_clash z_wL_85 (gX11_clash hst fu s a0 a1) rfl rfl (by decide) rfl rfl ⟨by decide, by decide, by decide, by decide, Nat.le_of_ble_eq_true rfl⟩ (fun x2 s1 => ?_) (fun s4 => GX_1 (x := 0) rfl (Or.inl rfl) z_wL_25 (by decide) (by decide) (fun q5 => ?_)) (fun _ h => absurd rfl h)
  · refine G_i2l (pc := 7) dL_clash_7 ?_
    refine G_last (pc := 8) dL_clash_8 (fun s3 => ?_)
    refine G_goto (tgt := 15) (pc := 9) dL_clash_9 ?_
    refine G_iconst (pc := 15) dL_clash_15 ?_
    exact G_iret (pc := 16) dL_clash_16
  · refine G_xastore_n (lv' := [vR a0, vI a1, vR a2, vA q5]) (pc := 12) dL_clash_12 rfl ?_
    refine G_iconst (pc := 13) dL_clash_13 ?_
    exact G_iret (pc := 14) dL_clash_14
def fL_thick (fu : Nat) (s : z_M) (a0 : Int) (a1 : Int) (a2 : Int) (a3 : Int) : z_O := if z_ob a0 11 then z_cI (fX11_thick fu s a0 a1 a2) (fun x2 s1 => if z_ix a3 101 0 then z_let (z_up s1 a3 0 x2) (fun s3 => some (vI 0, s3)) else none) (fun s4 => some (vI 1, s4)) (fun s6 => some (vI 2, s6)) else none
theorem gL_thick {l : Launch} {K : z_K} (hst : l.stackTraces = false) (fu : Nat) (s : z_M) (a0 : Int) (a1 : Int) (a2 : Int) (a3 : Int) : z_D l K mL_thick 8 194 3 18 [vR a0, vI a1, vI a2, vR a3] s (fL_thick fu s a0 a1 a2 a3) := by
  refine z_D_of (lv := [vR a0, vI a1, vI a2, vR a3, vU]) hst z_mL_thick rfl ?_ (Nat.le_of_ble_eq_true rfl) rfl
  unfold fL_thick
  refine G_aload_n (x := a3) (pc := 0) dL_thick_0 rfl ?_
  refine G_iconst (pc := 1) dL_thick_1 ?_
  refine G_aload_n (x := a0) (pc := 2) dL_thick_2 rfl ?_
  refine G_iload_n (x := a1) (pc := 3) dL_thick_3 rfl ?_
  refine G_iload_n (x := a2) (pc := 4) dL_thick_4 rfl ?_
  refine G_ccI (as := [vI a1, vI a2]) (st := [vI 0, vR a3]) (c := 11) (bc2 := 0) (bs2 := 0) (pc := 5) dL_thick_5 z_mX11_thick z_vX11_thick z_wL_88 (gX11_thick hst fu s a0 a1 a2) rfl rfl (by decide) rfl rfl ⟨by decide, by decide, by decide, by decide, Nat.le_of_ble_eq_true rfl⟩ (fun x2 s1 => ?_) (fun s4 => GX_1 (x := 0) rfl (Or.inl rfl) z_wL_25 (by decide) (by decide) (fun q5 => ?_)) (fun s6 => GX_2 (x := 1) (x2 := 0) rfl (Or.inr ⟨rfl, rfl⟩) z_wL_13 z_wL_25 (by decide) (by decide) (by decide) (fun q7 => ?_))
  · refine G_i2l (pc := 8) dL_thick_8 ?_
    refine G_last (pc := 9) dL_thick_9 (fun s3 => ?_)
    refine G_goto (tgt := 21) (pc := 10) dL_thick_10 ?_
    refine G_iconst (pc := 21) dL_thick_21 ?_
    exact G_iret (pc := 22) dL_thick_22
  · refine G_xastore (lv' := [vR a0, vI a1, vI a2, vR a3, vA q5]) (pc := 13) dL_thick_13 rfl ?_
    refine G_iconst (pc := 15) dL_thick_15 ?_
    exact G_iret (pc := 16) dL_thick_16
  · refine G_xastore (lv' := [vR a0, vI a1, vI a2, vR a3, vA q7]) (pc := 17) dL_thick_17 rfl ?_
    refine G_iconst (pc := 19) dL_thick_19 ?_
    exact G_iret (pc := 20) dL_thick_20
def fL_pages (fu : Nat) (s : z_M) (a0 : Int) (a1 : Int) (a2 : Int) : z_O := if z_ob a0 11 then z_cI (fX11_pages fu s a0 a1) (fun x2 s1 => if z_ix a2 101 0 then z_let (z_up s1 a2 0 x2) (fun s3 => some (vI 0, s3)) else none) (fun _ => none) (fun s4 => some (vI 1, s4)) else none
theorem gL_pages {l : Launch} {K : z_K} (hst : l.stackTraces = false) (fu : Nat) (s : z_M) (a0 : Int) (a1 : Int) (a2 : Int) : z_D l K mL_pages 8 193 1 6 [vR a0, vI a1, vR a2] s (fL_pages fu s a0 a1 a2) := by
  refine z_D_of (lv := [vR a0, vI a1, vR a2, vU]) hst z_mL_pages rfl ?_ (Nat.le_of_ble_eq_true rfl) rfl
  unfold fL_pages
  refine G_aload_n (x := a2) (pc := 0) dL_pages_0 rfl ?_
  refine G_iconst (pc := 1) dL_pages_1 ?_
  refine G_aload_n (x := a0) (pc := 2) dL_pages_2 rfl ?_
  refine G_iload_n (x := a1) (pc := 3) dL_pages_3 rfl ?_
  refine G_ccI (as := [vI a1]) (st := [vI 0, vR a2]) (c := 11) (bc2 := 0) (bs2 := 0) (pc := 4) dL_pages_4 z_mX11_pages z_vX11_pages z_wL_91 (gX11_pages hst fu s a0 a1) rfl rfl (by decide) rfl rfl ⟨by decide, by decide, by decide, by decide, Nat.le_of_ble_eq_true rfl⟩ (fun x2 s1 => ?_) (fun _ h => absurd rfl h) (fun s4 => GX_1 (x := 1) rfl (Or.inr rfl) z_wL_13 (by decide) (by decide) (fun q5 => ?_))
  · refine G_i2l (pc := 7) dL_pages_7 ?_
    refine G_last (pc := 8) dL_pages_8 (fun s3 => ?_)
    refine G_goto (tgt := 15) (pc := 9) dL_pages_9 ?_
    refine G_iconst (pc := 15) dL_pages_15 ?_
    exact G_iret (pc := 16) dL_pages_16
  · refine G_xastore_n (lv' := [vR a0, vI a1, vR a2, vA q5]) (pc := 12) dL_pages_12 rfl ?_
    refine G_iconst (pc := 13) dL_pages_13 ?_
    exact G_iret (pc := 14) dL_pages_14
def fL_page (fu : Nat) (s : z_M) (a0 : Int) (a1 : Int) (a2 : Int) (a3 : Int) (a4 : Int) : z_O := if z_ob a0 11 then z_cI (fX11_page fu s a0 a1 a2 a3) (fun x2 s1 => if z_ix a4 101 0 then z_let (z_up s1 a4 0 x2) (fun s3 => some (vI 0, s3)) else none) (fun _ => none) (fun s4 => some (vI 1, s4)) else none
theorem gL_page {l : Launch} {K : z_K} (hst : l.stackTraces = false) (fu : Nat) (s : z_M) (a0 : Int) (a1 : Int) (a2 : Int) (a3 : Int) (a4 : Int) : z_D l K mL_page 8 197 2 12 [vR a0, vI a1, vI a2, vI a3, vR a4] s (fL_page fu s a0 a1 a2 a3 a4) := by
  refine z_D_of (lv := [vR a0, vI a1, vI a2, vI a3, vR a4, vU]) hst z_mL_page rfl ?_ (Nat.le_of_ble_eq_true rfl) rfl
  unfold fL_page
  refine G_aload (x := a4) (pc := 0) dL_page_0 rfl ?_
  refine G_iconst (pc := 2) dL_page_2 ?_
  refine G_aload_n (x := a0) (pc := 3) dL_page_3 rfl ?_
  refine G_iload_n (x := a1) (pc := 4) dL_page_4 rfl ?_
  refine G_iload_n (x := a2) (pc := 5) dL_page_5 rfl ?_
  refine G_iload_n (x := a3) (pc := 6) dL_page_6 rfl ?_
  refine G_ccI (as := [vI a1, vI a2, vI a3]) (st := [vI 0, vR a4]) (c := 11) (bc2 := 0) (bs2 := 0) (pc := 7) dL_page_7 z_mX11_page z_vX11_page z_wL_94 (gX11_page hst fu s a0 a1 a2 a3) rfl rfl (by decide) rfl rfl ⟨by decide, by decide, by decide, by decide, Nat.le_of_ble_eq_true rfl⟩ (fun x2 s1 => ?_) (fun _ h => absurd rfl h) (fun s4 => GX_1 (x := 1) rfl (Or.inr rfl) z_wL_13 (by decide) (by decide) (fun q5 => ?_))
  · refine G_i2l (pc := 10) dL_page_10 ?_
    refine G_last (pc := 11) dL_page_11 (fun s3 => ?_)
    refine G_goto (tgt := 19) (pc := 12) dL_page_12 ?_
    refine G_iconst (pc := 19) dL_page_19 ?_
    exact G_iret (pc := 20) dL_page_20
  · refine G_xastore (lv' := [vR a0, vI a1, vI a2, vI a3, vR a4, vA q5]) (pc := 15) dL_page_15 rfl ?_
    refine G_iconst (pc := 17) dL_page_17 ?_
    exact G_iret (pc := 18) dL_page_18
def fL_narrow (fu : Nat) (s : z_M) (a0 : Int) (a1 : Int) (a2 : Int) : z_O := if z_ob a0 11 then z_cI (fX11_narrow fu s a0 a1) (fun x2 s1 => if z_ix a2 101 0 then z_let (z_up s1 a2 0 x2) (fun s3 => some (vI 0, s3)) else none) (fun _ => none) (fun s4 => some (vI 1, s4)) else none
theorem gL_narrow {l : Launch} {K : z_K} (hst : l.stackTraces = false) (fu : Nat) (s : z_M) (a0 : Int) (a1 : Int) (a2 : Int) : z_D l K mL_narrow 8 196 1 6 [vR a0, vI a1, vR a2] s (fL_narrow fu s a0 a1 a2) := by
  refine z_D_of (lv := [vR a0, vI a1, vR a2, vU]) hst z_mL_narrow rfl ?_ (Nat.le_of_ble_eq_true rfl) rfl
  unfold fL_narrow
  refine G_aload_n (x := a2) (pc := 0) dL_narrow_0 rfl ?_
  refine G_iconst (pc := 1) dL_narrow_1 ?_
  refine G_aload_n (x := a0) (pc := 2) dL_narrow_2 rfl ?_
  refine G_iload_n (x := a1) (pc := 3) dL_narrow_3 rfl ?_
  refine G_ccI (as := [vI a1]) (st := [vI 0, vR a2]) (c := 11) (bc2 := 0) (bs2 := 0) (pc := 4) dL_narrow_4 z_mX11_narrow z_vX11_narrow z_wL_97 (gX11_narrow hst fu s a0 a1) rfl rfl (by decide) rfl rfl ⟨by decide, by decide, by decide, by decide, Nat.le_of_ble_eq_true rfl⟩ (fun x2 s1 => ?_) (fun _ h => absurd rfl h) (fun s4 => GX_1 (x := 1) rfl (Or.inr rfl) z_wL_13 (by decide) (by decide) (fun q5 => ?_))
  · refine G_i2l (pc := 7) dL_narrow_7 ?_
    refine G_last (pc := 8) dL_narrow_8 (fun s3 => ?_)
    refine G_goto (tgt := 15) (pc := 9) dL_narrow_9 ?_
    refine G_iconst (pc := 15) dL_narrow_15 ?_
    exact G_iret (pc := 16) dL_narrow_16
  · refine G_xastore_n (lv' := [vR a0, vI a1, vR a2, vA q5]) (pc := 12) dL_narrow_12 rfl ?_
    refine G_iconst (pc := 13) dL_narrow_13 ?_
    exact G_iret (pc := 14) dL_narrow_14
abbrev mL_law : z_Me := (yL_law, cL_law, 8, some .boolean, [])
def fL_law_J2073 (fu L : Nat) (xs : Nat → Int32) (s : z_M) (a1 : Int) (a2 : Int) (a3 : Int) (a4 : Int) (r : z_M → Int → z_O) (k : z_M → z_O) : z_O := z_let (z_w (a4 + 6)) (fun x28 => r s x28)
theorem gL_law_J2073 {l : Launch} {K : z_K} (hst : l.stackTraces = false) (fu F : Nat) (s : z_M) (a1 : Int) (a2 : Int) (a3 : Int) (a4 : Int) (r : z_M → Int → z_O) (k : z_M → z_O) (hr : ∀ (s : z_M) (a4 : Int), G l K mL_law 13 295 (4 * F) (24 * F) 23 [vA K.2.2.2.2.2.1, vR a1, vR a2, vR a3, vI a4, vU, vU, vU] [] s (r s a4)) (hk : ∀ (s : z_M), G l K mL_law 13 295 0 0 2079 [vA K.2.2.2.2.2.1, vU, vU, vU, vU, vU, vU, vU] [] s (k s)) : G l K mL_law 13 295 (4 * F) (24 * F) 2073 [vA K.2.2.2.2.2.1, vR a1, vR a2, vR a3, vI a4, vU, vU, vU] [] s (fL_law_J2073 fu K.2.2.2.2.2.2.1 K.2.2.2.2.2.2.2 s a1 a2 a3 a4 r k) := by
  unfold fL_law_J2073
  refine G_iinc (x := a4) (g := fun x28 => [vA K.2.2.2.2.2.1, vR a1, vR a2, vR a3, vI x28, vU, vU, vU]) (pc := 2073) dL_law_2073 rfl (fun _ => rfl) (fun x28 => ?_)
  refine G_goto (tgt := 23) (pc := 2076) dL_law_2076 ?_
  refine G_less (bc2 := (4 * F)) (bs2 := (24 * F)) (by omega) (by omega) ?_
  exact hr s x28
def fL_law_J188 (fu L : Nat) (xs : Nat → Int32) (s : z_M) (a1 : Int) (a2 : Int) (a3 : Int) (a4 : Int) (r : z_M → Int → z_O) (k : z_M → z_O) : z_O := z_let (z_w (a4 + 1)) (fun x4 => if 0 ≤ x4 ∧ x4 < (L : Int) then z_let (Int32.toInt (xs (Int.toNat x4))) (fun x5 => z_let (z_w (a4 + 2)) (fun x6 => if 0 ≤ x6 ∧ x6 < (L : Int) then z_let (Int32.toInt (xs (Int.toNat x6))) (fun x7 => z_let (z_w (a4 + 3)) (fun x8 => if 0 ≤ x8 ∧ x8 < (L : Int) then z_let (Int32.toInt (xs (Int.toNat x8))) (fun x9 => z_let (z_w (a4 + 4)) (fun x10 => if 0 ≤ x10 ∧ x10 < (L : Int) then z_let (Int32.toInt (xs (Int.toNat x10))) (fun x11 => z_let (z_w (a4 + 5)) (fun x12 => if 0 ≤ x12 ∧ x12 < (L : Int) then z_let (Int32.toInt (xs (Int.toNat x12))) (fun x13 => if z_ob a1 11 then z_bI (fX11_feed fu s a1 x5 x7 x9 x11 x13) (fun x15 s14 => z_let (z_w (a4 + 1)) (fun x16 => if 0 ≤ x16 ∧ x16 < (L : Int) then z_let (Int32.toInt (xs (Int.toNat x16))) (fun x17 => z_let (z_w (a4 + 2)) (fun x18 => if 0 ≤ x18 ∧ x18 < (L : Int) then z_let (Int32.toInt (xs (Int.toNat x18))) (fun x19 => z_let (z_w (a4 + 3)) (fun x20 => if 0 ≤ x20 ∧ x20 < (L : Int) then z_let (Int32.toInt (xs (Int.toNat x20))) (fun x21 => z_let (z_w (a4 + 4)) (fun x22 => if 0 ≤ x22 ∧ x22 < (L : Int) then z_let (Int32.toInt (xs (Int.toNat x22))) (fun x23 => z_let (z_w (a4 + 5)) (fun x24 => if 0 ≤ x24 ∧ x24 < (L : Int) then z_let (Int32.toInt (xs (Int.toNat x24))) (fun x25 => if z_ob a2 12 then z_bI (fX12_feed fu s14 a2 x17 x19 x21 x23 x25) (fun x27 s26 => if (x15 : Int) = x27 then (fL_law_J2073 fu L xs s26 a1 a2 a3 a4 (fun w v4 => r w v4) k) else (if z_bl 0 then some (vI 0, s26) else none)) else none) else none)) else none)) else none)) else none)) else none)) else none) else none)) else none)) else none)) else none)) else none)
theorem gL_law_J188 {l : Launch} {K : z_K} (hst : l.stackTraces = false) (fu F : Nat) (s : z_M) (a1 : Int) (a2 : Int) (a3 : Int) (a4 : Int) (r : z_M → Int → z_O) (k : z_M → z_O) (hr : ∀ (s : z_M) (a4 : Int), G l K mL_law 13 295 (4 * F) (24 * F) 23 [vA K.2.2.2.2.2.1, vR a1, vR a2, vR a3, vI a4, vU, vU, vU] [] s (r s a4)) (hk : ∀ (s : z_M), G l K mL_law 13 295 0 0 2079 [vA K.2.2.2.2.2.1, vU, vU, vU, vU, vU, vU, vU] [] s (k s)) : G l K mL_law 13 295 (4 * F) (24 * F) 188 [vA K.2.2.2.2.2.1, vR a1, vR a2, vR a3, vI a4, vU, vU, vU] [] s (fL_law_J188 fu K.2.2.2.2.2.2.1 K.2.2.2.2.2.2.2 s a1 a2 a3 a4 r k) := by
  unfold fL_law_J188
  refine G_aload_n (x := a1) (pc := 188) dL_law_188 rfl ?_
  refine G_sload_n (pc := 189) dL_law_189 rfl ?_
  refine G_iload (x := a4) (pc := 190) dL_law_190 rfl ?_
  refine G_iconst (pc := 192) dL_law_192 ?_
  refine G_iadd (pc := 193) dL_law_193 (fun x4 => ?_)
  refine G_sald (pc := 194) dL_law_194 (fun x5 => ?_)
  refine G_sload_n (pc := 195) dL_law_195 rfl ?_
  refine G_iload (x := a4) (pc := 196) dL_law_196 rfl ?_
  refine G_iconst (pc := 198) dL_law_198 ?_
  refine G_iadd (pc := 199) dL_law_199 (fun x6 => ?_)
  refine G_sald (pc := 200) dL_law_200 (fun x7 => ?_)
  refine G_sload_n (pc := 201) dL_law_201 rfl ?_
  refine G_iload (x := a4) (pc := 202) dL_law_202 rfl ?_
  refine G_iconst (pc := 204) dL_law_204 ?_
  refine G_iadd (pc := 205) dL_law_205 (fun x8 => ?_)
  refine G_sald (pc := 206) dL_law_206 (fun x9 => ?_)
  refine G_sload_n (pc := 207) dL_law_207 rfl ?_
  refine G_iload (x := a4) (pc := 208) dL_law_208 rfl ?_
  refine G_iconst (pc := 210) dL_law_210 ?_
  refine G_iadd (pc := 211) dL_law_211 (fun x10 => ?_)
  refine G_sald (pc := 212) dL_law_212 (fun x11 => ?_)
  refine G_sload_n (pc := 213) dL_law_213 rfl ?_
  refine G_iload (x := a4) (pc := 214) dL_law_214 rfl ?_
  refine G_iconst (pc := 216) dL_law_216 ?_
  refine G_iadd (pc := 217) dL_law_217 (fun x12 => ?_)
  refine G_sald (pc := 218) dL_law_218 (fun x13 => ?_)
  refine G_callVI (as := [vI x5, vI x7, vI x9, vI x11, vI x13]) (st := []) (c := 11) (bc2 := (4 * F)) (bs2 := (24 * F)) (pc := 219) dL_law_219 z_mX11_feed z_vX11_feed z_wL_104 (gX11_feed hst fu s a1 x5 x7 x9 x11 x13) rfl rfl (by decide) rfl rfl ⟨by decide, by decide, by omega, by omega, Nat.le_of_ble_eq_true rfl⟩ rfl (fun x15 s14 => ?_)
  refine G_aload_n (x := a2) (pc := 222) dL_law_222 rfl ?_
  refine G_sload_n (pc := 223) dL_law_223 rfl ?_
  refine G_iload (x := a4) (pc := 224) dL_law_224 rfl ?_
  refine G_iconst (pc := 226) dL_law_226 ?_
  refine G_iadd (pc := 227) dL_law_227 (fun x16 => ?_)
  refine G_sald (pc := 228) dL_law_228 (fun x17 => ?_)
  refine G_sload_n (pc := 229) dL_law_229 rfl ?_
  refine G_iload (x := a4) (pc := 230) dL_law_230 rfl ?_
  refine G_iconst (pc := 232) dL_law_232 ?_
  refine G_iadd (pc := 233) dL_law_233 (fun x18 => ?_)
  refine G_sald (pc := 234) dL_law_234 (fun x19 => ?_)
  refine G_sload_n (pc := 235) dL_law_235 rfl ?_
  refine G_iload (x := a4) (pc := 236) dL_law_236 rfl ?_
  refine G_iconst (pc := 238) dL_law_238 ?_
  refine G_iadd (pc := 239) dL_law_239 (fun x20 => ?_)
  refine G_sald (pc := 240) dL_law_240 (fun x21 => ?_)
  refine G_sload_n (pc := 241) dL_law_241 rfl ?_
  refine G_iload (x := a4) (pc := 242) dL_law_242 rfl ?_
  refine G_iconst (pc := 244) dL_law_244 ?_
  refine G_iadd (pc := 245) dL_law_245 (fun x22 => ?_)
  refine G_sald (pc := 246) dL_law_246 (fun x23 => ?_)
  refine G_sload_n (pc := 247) dL_law_247 rfl ?_
  refine G_iload (x := a4) (pc := 248) dL_law_248 rfl ?_
  refine G_iconst (pc := 250) dL_law_250 ?_
  refine G_iadd (pc := 251) dL_law_251 (fun x24 => ?_)
  refine G_sald (pc := 252) dL_law_252 (fun x25 => ?_)
  refine G_callVI (as := [vI x17, vI x19, vI x21, vI x23, vI x25]) (st := [vI x15]) (c := 12) (bc2 := (4 * F)) (bs2 := (24 * F)) (pc := 253) dL_law_253 z_mX12_feed z_vX12_feed z_wL_108 (gX12_feed hst fu s14 a2 x17 x19 x21 x23 x25) rfl rfl (by decide) rfl rfl ⟨by decide, by decide, by omega, by omega, Nat.le_of_ble_eq_true rfl⟩ rfl (fun x27 s26 => ?_)
  refine G_icmp_eq (tgt := 2073) (pc := 256) dL_law_256 ?_ ?_
  · refine G_less (bc2 := (4 * F)) (bs2 := (24 * F)) (by omega) (by omega) ?_
    exact gL_law_J2073 hst fu F s26 a1 a2 a3 a4 _ _ (fun w v4 => hr w v4) hk
  · refine G_iconst (pc := 259) dL_law_259 ?_
    exact G_zret (pc := 260) dL_law_260
def fL_law_J314 (fu L : Nat) (xs : Nat → Int32) (s : z_M) (a1 : Int) (a2 : Int) (a3 : Int) (a4 : Int) (r : z_M → Int → z_O) (k : z_M → z_O) : z_O := fL_law_J2073 fu L xs s a1 a2 a3 a4 (fun w v4 => r w v4) k
theorem gL_law_J314 {l : Launch} {K : z_K} (hst : l.stackTraces = false) (fu F : Nat) (s : z_M) (a1 : Int) (a2 : Int) (a3 : Int) (a4 : Int) (r : z_M → Int → z_O) (k : z_M → z_O) (hr : ∀ (s : z_M) (a4 : Int), G l K mL_law 13 295 (4 * F) (24 * F) 23 [vA K.2.2.2.2.2.1, vR a1, vR a2, vR a3, vI a4, vU, vU, vU] [] s (r s a4)) (hk : ∀ (s : z_M), G l K mL_law 13 295 0 0 2079 [vA K.2.2.2.2.2.1, vU, vU, vU, vU, vU, vU, vU] [] s (k s)) : G l K mL_law 13 295 (4 * F) (24 * F) 314 [vA K.2.2.2.2.2.1, vR a1, vR a2, vR a3, vI a4, vU, vU, vU] [] s (fL_law_J314 fu K.2.2.2.2.2.2.1 K.2.2.2.2.2.2.2 s a1 a2 a3 a4 r k) := by
  unfold fL_law_J314
  refine G_goto (tgt := 2073) (pc := 314) dL_law_314 ?_
  refine G_less (bc2 := (4 * F)) (bs2 := (24 * F)) (by omega) (by omega) ?_
  exact gL_law_J2073 hst fu F s a1 a2 a3 a4 _ _ (fun w v4 => hr w v4) hk
def fL_law_J261 (fu L : Nat) (xs : Nat → Int32) (s : z_M) (a1 : Int) (a2 : Int) (a3 : Int) (a4 : Int) (r : z_M → Int → z_O) (k : z_M → z_O) : z_O := z_let (z_w (a4 + 1)) (fun x29 => if 0 ≤ x29 ∧ x29 < (L : Int) then z_let (Int32.toInt (xs (Int.toNat x29))) (fun x30 => z_bI (fL_text fu s a1 x30 a3) (fun x32 s31 => z_let (z_w (a4 + 1)) (fun x33 => if 0 ≤ x33 ∧ x33 < (L : Int) then z_let (Int32.toInt (xs (Int.toNat x33))) (fun x34 => if z_ob a2 12 then z_bI (fX12_text fu s31 a2 x34) (fun x36 s35 => if z_ob a2 12 then z_bI (fX12_thrown fu s35 a2) (fun x38 s37 => if (x38 : Int) = x32 then (if (x32 : Int) ≠ 0 then (fL_law_J314 fu L xs s37 a1 a2 a3 a4 (fun w v4 => r w v4) k) else (if z_ix a3 101 0 then z_let (s37 a3 0) (fun x39 => z_let (z_cmp x39 x36) (fun x40 => if (x40 : Int) = 0 then (fL_law_J314 fu L xs s37 a1 a2 a3 a4 (fun w v4 => r w v4) k) else (if z_bl 0 then some (vI 0, s37) else none))) else none)) else (if z_bl 0 then some (vI 0, s37) else none)) else none) else none) else none))) else none)
theorem gL_law_J261 {l : Launch} {K : z_K} (hst : l.stackTraces = false) (fu F : Nat) (s : z_M) (a1 : Int) (a2 : Int) (a3 : Int) (a4 : Int) (r : z_M → Int → z_O) (k : z_M → z_O) (hr : ∀ (s : z_M) (a4 : Int), G l K mL_law 13 295 (4 * F) (24 * F) 23 [vA K.2.2.2.2.2.1, vR a1, vR a2, vR a3, vI a4, vU, vU, vU] [] s (r s a4)) (hk : ∀ (s : z_M), G l K mL_law 13 295 0 0 2079 [vA K.2.2.2.2.2.1, vU, vU, vU, vU, vU, vU, vU] [] s (k s)) : G l K mL_law 13 295 (4 * F + 1) (24 * F + 6) 261 [vA K.2.2.2.2.2.1, vR a1, vR a2, vR a3, vI a4, vU, vU, vU] [] s (fL_law_J261 fu K.2.2.2.2.2.2.1 K.2.2.2.2.2.2.2 s a1 a2 a3 a4 r k) := by
  unfold fL_law_J261
  refine G_aload_n (x := a1) (pc := 261) dL_law_261 rfl ?_
  refine G_sload_n (pc := 262) dL_law_262 rfl ?_
  refine G_iload (x := a4) (pc := 263) dL_law_263 rfl ?_
  refine G_iconst (pc := 265) dL_law_265 ?_
  refine G_iadd (pc := 266) dL_law_266 (fun x29 => ?_)
  refine G_sald (pc := 267) dL_law_267 (fun x30 => ?_)
  refine G_aload_n (x := a3) (pc := 268) dL_law_268 rfl ?_
  refine G_callSI (as := [vR a1, vI x30, vR a3]) (st := []) (bc2 := (4 * F)) (bs2 := (24 * F)) (pc := 269) dL_law_269 z_mL_text z_sL_text z_wL_109 (gL_text hst fu s a1 x30 a3) rfl rfl ⟨by decide, by decide, by omega, by omega, Nat.le_of_ble_eq_true rfl⟩ rfl (fun x32 s31 => ?_)
  refine G_istore (lv' := [vA K.2.2.2.2.2.1, vR a1, vR a2, vR a3, vI a4, vI x32, vU, vU]) (pc := 272) dL_law_272 rfl ?_
  refine G_aload_n (x := a2) (pc := 274) dL_law_274 rfl ?_
  refine G_sload_n (pc := 275) dL_law_275 rfl ?_
  refine G_iload (x := a4) (pc := 276) dL_law_276 rfl ?_
  refine G_iconst (pc := 278) dL_law_278 ?_
  refine G_iadd (pc := 279) dL_law_279 (fun x33 => ?_)
  refine G_sald (pc := 280) dL_law_280 (fun x34 => ?_)
  refine G_callVI (as := [vI x34]) (st := []) (c := 12) (bc2 := (4 * F)) (bs2 := (24 * F)) (pc := 281) dL_law_281 z_mX12_text z_vX12_text z_wL_114 (gX12_text hst fu s31 a2 x34) rfl rfl (by decide) rfl rfl ⟨by decide, by decide, by omega, by omega, Nat.le_of_ble_eq_true rfl⟩ rfl (fun x36 s35 => ?_)
  refine G_istore (lv' := [vA K.2.2.2.2.2.1, vR a1, vR a2, vR a3, vI a4, vI x32, vI x36, vU]) (pc := 284) dL_law_284 rfl ?_
  refine G_aload_n (x := a2) (pc := 286) dL_law_286 rfl ?_
  refine G_callVI (as := []) (st := []) (c := 12) (bc2 := (4 * F)) (bs2 := (24 * F)) (pc := 287) dL_law_287 z_mX12_thrown z_vX12_thrown z_wL_115 (gX12_thrown hst fu s35 a2) rfl rfl (by decide) rfl rfl ⟨by decide, by decide, by omega, by omega, Nat.le_of_ble_eq_true rfl⟩ rfl (fun x38 s37 => ?_)
  refine G_iload (x := x32) (pc := 290) dL_law_290 rfl ?_
  refine G_icmp_eq (tgt := 297) (pc := 292) dL_law_292 ?_ ?_
  · refine G_iload (x := x32) (pc := 297) dL_law_297 rfl ?_
    refine G_if_ne (tgt := 314) (pc := 299) dL_law_299 ?_ ?_
    · refine G_less (bc2 := (4 * F)) (bs2 := (24 * F)) (by omega) (by omega) ?_
      refine G_fg (lv2 := [vA K.2.2.2.2.2.1, vR a1, vR a2, vR a3, vI a4, vU, vU, vU]) ⟨Or.inr rfl, Or.inr rfl, Or.inr rfl, Or.inr rfl, Or.inr rfl, Or.inl rfl, Or.inl rfl, Or.inl rfl, trivial⟩ ?_
      exact gL_law_J314 hst fu F s37 a1 a2 a3 a4 _ _ (fun w v4 => hr w v4) hk
    · refine G_aload_n (x := a3) (pc := 302) dL_law_302 rfl ?_
      refine G_iconst (pc := 303) dL_law_303 ?_
      refine G_lald (pc := 304) dL_law_304 (fun x39 => ?_)
      refine G_iload (x := x36) (pc := 305) dL_law_305 rfl ?_
      refine G_i2l (pc := 307) dL_law_307 ?_
      refine G_lcmp (pc := 308) dL_law_308 (fun x40 => ?_)
      refine G_if_eq (tgt := 314) (pc := 309) dL_law_309 ?_ ?_
      · refine G_less (bc2 := (4 * F)) (bs2 := (24 * F)) (by omega) (by omega) ?_
        refine G_fg (lv2 := [vA K.2.2.2.2.2.1, vR a1, vR a2, vR a3, vI a4, vU, vU, vU]) ⟨Or.inr rfl, Or.inr rfl, Or.inr rfl, Or.inr rfl, Or.inr rfl, Or.inl rfl, Or.inl rfl, Or.inl rfl, trivial⟩ ?_
        exact gL_law_J314 hst fu F s37 a1 a2 a3 a4 _ _ (fun w v4 => hr w v4) hk
      · refine G_iconst (pc := 312) dL_law_312 ?_
        exact G_zret (pc := 313) dL_law_313
  · refine G_iconst (pc := 295) dL_law_295 ?_
    exact G_zret (pc := 296) dL_law_296
def fL_law_J370 (fu L : Nat) (xs : Nat → Int32) (s : z_M) (a1 : Int) (a2 : Int) (a3 : Int) (a4 : Int) (r : z_M → Int → z_O) (k : z_M → z_O) : z_O := fL_law_J2073 fu L xs s a1 a2 a3 a4 (fun w v4 => r w v4) k
theorem gL_law_J370 {l : Launch} {K : z_K} (hst : l.stackTraces = false) (fu F : Nat) (s : z_M) (a1 : Int) (a2 : Int) (a3 : Int) (a4 : Int) (r : z_M → Int → z_O) (k : z_M → z_O) (hr : ∀ (s : z_M) (a4 : Int), G l K mL_law 13 295 (4 * F) (24 * F) 23 [vA K.2.2.2.2.2.1, vR a1, vR a2, vR a3, vI a4, vU, vU, vU] [] s (r s a4)) (hk : ∀ (s : z_M), G l K mL_law 13 295 0 0 2079 [vA K.2.2.2.2.2.1, vU, vU, vU, vU, vU, vU, vU] [] s (k s)) : G l K mL_law 13 295 (4 * F) (24 * F) 370 [vA K.2.2.2.2.2.1, vR a1, vR a2, vR a3, vI a4, vU, vU, vU] [] s (fL_law_J370 fu K.2.2.2.2.2.2.1 K.2.2.2.2.2.2.2 s a1 a2 a3 a4 r k) := by
  unfold fL_law_J370
  refine G_goto (tgt := 2073) (pc := 370) dL_law_370 ?_
  refine G_less (bc2 := (4 * F)) (bs2 := (24 * F)) (by omega) (by omega) ?_
  exact gL_law_J2073 hst fu F s a1 a2 a3 a4 _ _ (fun w v4 => hr w v4) hk
def fL_law_J317 (fu L : Nat) (xs : Nat → Int32) (s : z_M) (a1 : Int) (a2 : Int) (a3 : Int) (a4 : Int) (r : z_M → Int → z_O) (k : z_M → z_O) : z_O := z_let (z_w (a4 + 1)) (fun x41 => if 0 ≤ x41 ∧ x41 < (L : Int) then z_let (Int32.toInt (xs (Int.toNat x41))) (fun x42 => z_bI (fL_more fu s a1 x42 a3) (fun x44 s43 => z_let (z_w (a4 + 1)) (fun x45 => if 0 ≤ x45 ∧ x45 < (L : Int) then z_let (Int32.toInt (xs (Int.toNat x45))) (fun x46 => if z_ob a2 12 then z_bI (fX12_more_ fu s43 a2 x46) (fun x48 s47 => if z_ob a2 12 then z_bI (fX12_thrown fu s47 a2) (fun x50 s49 => if (x50 : Int) = x44 then (if (x44 : Int) ≠ 0 then (fL_law_J370 fu L xs s49 a1 a2 a3 a4 (fun w v4 => r w v4) k) else (if z_ix a3 101 0 then z_let (s49 a3 0) (fun x51 => z_let (z_cmp x51 x48) (fun x52 => if (x52 : Int) = 0 then (fL_law_J370 fu L xs s49 a1 a2 a3 a4 (fun w v4 => r w v4) k) else (if z_bl 0 then some (vI 0, s49) else none))) else none)) else (if z_bl 0 then some (vI 0, s49) else none)) else none) else none) else none))) else none)
theorem gL_law_J317 {l : Launch} {K : z_K} (hst : l.stackTraces = false) (fu F : Nat) (s : z_M) (a1 : Int) (a2 : Int) (a3 : Int) (a4 : Int) (r : z_M → Int → z_O) (k : z_M → z_O) (hr : ∀ (s : z_M) (a4 : Int), G l K mL_law 13 295 (4 * F) (24 * F) 23 [vA K.2.2.2.2.2.1, vR a1, vR a2, vR a3, vI a4, vU, vU, vU] [] s (r s a4)) (hk : ∀ (s : z_M), G l K mL_law 13 295 0 0 2079 [vA K.2.2.2.2.2.1, vU, vU, vU, vU, vU, vU, vU] [] s (k s)) : G l K mL_law 13 295 (4 * F + 1) (24 * F + 6) 317 [vA K.2.2.2.2.2.1, vR a1, vR a2, vR a3, vI a4, vU, vU, vU] [] s (fL_law_J317 fu K.2.2.2.2.2.2.1 K.2.2.2.2.2.2.2 s a1 a2 a3 a4 r k) := by
  unfold fL_law_J317
  refine G_aload_n (x := a1) (pc := 317) dL_law_317 rfl ?_
  refine G_sload_n (pc := 318) dL_law_318 rfl ?_
  refine G_iload (x := a4) (pc := 319) dL_law_319 rfl ?_
  refine G_iconst (pc := 321) dL_law_321 ?_
  refine G_iadd (pc := 322) dL_law_322 (fun x41 => ?_)
  refine G_sald (pc := 323) dL_law_323 (fun x42 => ?_)
  refine G_aload_n (x := a3) (pc := 324) dL_law_324 rfl ?_
  refine G_callSI (as := [vR a1, vI x42, vR a3]) (st := []) (bc2 := (4 * F)) (bs2 := (24 * F)) (pc := 325) dL_law_325 z_mL_more z_sL_more z_wL_119 (gL_more hst fu s a1 x42 a3) rfl rfl ⟨by decide, by decide, by omega, by omega, Nat.le_of_ble_eq_true rfl⟩ rfl (fun x44 s43 => ?_)
  refine G_istore (lv' := [vA K.2.2.2.2.2.1, vR a1, vR a2, vR a3, vI a4, vI x44, vU, vU]) (pc := 328) dL_law_328 rfl ?_
  refine G_aload_n (x := a2) (pc := 330) dL_law_330 rfl ?_
  refine G_sload_n (pc := 331) dL_law_331 rfl ?_
  refine G_iload (x := a4) (pc := 332) dL_law_332 rfl ?_
  refine G_iconst (pc := 334) dL_law_334 ?_
  refine G_iadd (pc := 335) dL_law_335 (fun x45 => ?_)
  refine G_sald (pc := 336) dL_law_336 (fun x46 => ?_)
  refine G_callVI (as := [vI x46]) (st := []) (c := 12) (bc2 := (4 * F)) (bs2 := (24 * F)) (pc := 337) dL_law_337 z_mX12_more_ z_vX12_more_ z_wL_121 (gX12_more_ hst fu s43 a2 x46) rfl rfl (by decide) rfl rfl ⟨by decide, by decide, by omega, by omega, Nat.le_of_ble_eq_true rfl⟩ rfl (fun x48 s47 => ?_)
  refine G_istore (lv' := [vA K.2.2.2.2.2.1, vR a1, vR a2, vR a3, vI a4, vI x44, vI x48, vU]) (pc := 340) dL_law_340 rfl ?_
  refine G_aload_n (x := a2) (pc := 342) dL_law_342 rfl ?_
  refine G_callVI (as := []) (st := []) (c := 12) (bc2 := (4 * F)) (bs2 := (24 * F)) (pc := 343) dL_law_343 z_mX12_thrown z_vX12_thrown z_wL_115 (gX12_thrown hst fu s47 a2) rfl rfl (by decide) rfl rfl ⟨by decide, by decide, by omega, by omega, Nat.le_of_ble_eq_true rfl⟩ rfl (fun x50 s49 => ?_)
  refine G_iload (x := x44) (pc := 346) dL_law_346 rfl ?_
  refine G_icmp_eq (tgt := 353) (pc := 348) dL_law_348 ?_ ?_
  · refine G_iload (x := x44) (pc := 353) dL_law_353 rfl ?_
    refine G_if_ne (tgt := 370) (pc := 355) dL_law_355 ?_ ?_
    · refine G_less (bc2 := (4 * F)) (bs2 := (24 * F)) (by omega) (by omega) ?_
      refine G_fg (lv2 := [vA K.2.2.2.2.2.1, vR a1, vR a2, vR a3, vI a4, vU, vU, vU]) ⟨Or.inr rfl, Or.inr rfl, Or.inr rfl, Or.inr rfl, Or.inr rfl, Or.inl rfl, Or.inl rfl, Or.inl rfl, trivial⟩ ?_
      exact gL_law_J370 hst fu F s49 a1 a2 a3 a4 _ _ (fun w v4 => hr w v4) hk
    · refine G_aload_n (x := a3) (pc := 358) dL_law_358 rfl ?_
      refine G_iconst (pc := 359) dL_law_359 ?_
      refine G_lald (pc := 360) dL_law_360 (fun x51 => ?_)
      refine G_iload (x := x48) (pc := 361) dL_law_361 rfl ?_
      refine G_i2l (pc := 363) dL_law_363 ?_
      refine G_lcmp (pc := 364) dL_law_364 (fun x52 => ?_)
      refine G_if_eq (tgt := 370) (pc := 365) dL_law_365 ?_ ?_
      · refine G_less (bc2 := (4 * F)) (bs2 := (24 * F)) (by omega) (by omega) ?_
        refine G_fg (lv2 := [vA K.2.2.2.2.2.1, vR a1, vR a2, vR a3, vI a4, vU, vU, vU]) ⟨Or.inr rfl, Or.inr rfl, Or.inr rfl, Or.inr rfl, Or.inr rfl, Or.inl rfl, Or.inl rfl, Or.inl rfl, trivial⟩ ?_
        exact gL_law_J370 hst fu F s49 a1 a2 a3 a4 _ _ (fun w v4 => hr w v4) hk
      · refine G_iconst (pc := 368) dL_law_368 ?_
        exact G_zret (pc := 369) dL_law_369
  · refine G_iconst (pc := 351) dL_law_351 ?_
    exact G_zret (pc := 352) dL_law_352
def fL_law_J373 (fu L : Nat) (xs : Nat → Int32) (s : z_M) (a1 : Int) (a2 : Int) (a3 : Int) (a4 : Int) (r : z_M → Int → z_O) (k : z_M → z_O) : z_O := if z_ob a1 11 then z_bI (fX11_fault fu s a1) (fun x54 s53 => if z_ob a2 12 then z_bI (fX12_fault fu s53 a2) (fun x56 s55 => if (x54 : Int) = x56 then (fL_law_J2073 fu L xs s55 a1 a2 a3 a4 (fun w v4 => r w v4) k) else (if z_bl 0 then some (vI 0, s55) else none)) else none) else none
theorem gL_law_J373 {l : Launch} {K : z_K} (hst : l.stackTraces = false) (fu F : Nat) (s : z_M) (a1 : Int) (a2 : Int) (a3 : Int) (a4 : Int) (r : z_M → Int → z_O) (k : z_M → z_O) (hr : ∀ (s : z_M) (a4 : Int), G l K mL_law 13 295 (4 * F) (24 * F) 23 [vA K.2.2.2.2.2.1, vR a1, vR a2, vR a3, vI a4, vU, vU, vU] [] s (r s a4)) (hk : ∀ (s : z_M), G l K mL_law 13 295 0 0 2079 [vA K.2.2.2.2.2.1, vU, vU, vU, vU, vU, vU, vU] [] s (k s)) : G l K mL_law 13 295 (4 * F) (24 * F) 373 [vA K.2.2.2.2.2.1, vR a1, vR a2, vR a3, vI a4, vU, vU, vU] [] s (fL_law_J373 fu K.2.2.2.2.2.2.1 K.2.2.2.2.2.2.2 s a1 a2 a3 a4 r k) := by
  unfold fL_law_J373
  refine G_aload_n (x := a1) (pc := 373) dL_law_373 rfl ?_
  refine G_callVI (as := []) (st := []) (c := 11) (bc2 := (4 * F)) (bs2 := (24 * F)) (pc := 374) dL_law_374 z_mX11_fault z_vX11_fault z_wL_122 (gX11_fault hst fu s a1) rfl rfl (by decide) rfl rfl ⟨by decide, by decide, by omega, by omega, Nat.le_of_ble_eq_true rfl⟩ rfl (fun x54 s53 => ?_)
  refine G_aload_n (x := a2) (pc := 377) dL_law_377 rfl ?_
  refine G_callVI (as := []) (st := [vI x54]) (c := 12) (bc2 := (4 * F)) (bs2 := (24 * F)) (pc := 378) dL_law_378 z_mX12_fault z_vX12_fault z_wL_125 (gX12_fault hst fu s53 a2) rfl rfl (by decide) rfl rfl ⟨by decide, by decide, by omega, by omega, Nat.le_of_ble_eq_true rfl⟩ rfl (fun x56 s55 => ?_)
  refine G_icmp_eq (tgt := 2073) (pc := 381) dL_law_381 ?_ ?_
  · refine G_less (bc2 := (4 * F)) (bs2 := (24 * F)) (by omega) (by omega) ?_
    exact gL_law_J2073 hst fu F s55 a1 a2 a3 a4 _ _ (fun w v4 => hr w v4) hk
  · refine G_iconst (pc := 384) dL_law_384 ?_
    exact G_zret (pc := 385) dL_law_385
def fL_law_J451 (fu L : Nat) (xs : Nat → Int32) (s : z_M) (a1 : Int) (a2 : Int) (a3 : Int) (a4 : Int) (r : z_M → Int → z_O) (k : z_M → z_O) : z_O := fL_law_J2073 fu L xs s a1 a2 a3 a4 (fun w v4 => r w v4) k
theorem gL_law_J451 {l : Launch} {K : z_K} (hst : l.stackTraces = false) (fu F : Nat) (s : z_M) (a1 : Int) (a2 : Int) (a3 : Int) (a4 : Int) (r : z_M → Int → z_O) (k : z_M → z_O) (hr : ∀ (s : z_M) (a4 : Int), G l K mL_law 13 295 (4 * F) (24 * F) 23 [vA K.2.2.2.2.2.1, vR a1, vR a2, vR a3, vI a4, vU, vU, vU] [] s (r s a4)) (hk : ∀ (s : z_M), G l K mL_law 13 295 0 0 2079 [vA K.2.2.2.2.2.1, vU, vU, vU, vU, vU, vU, vU] [] s (k s)) : G l K mL_law 13 295 (4 * F) (24 * F) 451 [vA K.2.2.2.2.2.1, vR a1, vR a2, vR a3, vI a4, vU, vU, vU] [] s (fL_law_J451 fu K.2.2.2.2.2.2.1 K.2.2.2.2.2.2.2 s a1 a2 a3 a4 r k) := by
  unfold fL_law_J451
  refine G_goto (tgt := 2073) (pc := 451) dL_law_451 ?_
  refine G_less (bc2 := (4 * F)) (bs2 := (24 * F)) (by omega) (by omega) ?_
  exact gL_law_J2073 hst fu F s a1 a2 a3 a4 _ _ (fun w v4 => hr w v4) hk
def fL_law_J386 (fu L : Nat) (xs : Nat → Int32) (s : z_M) (a1 : Int) (a2 : Int) (a3 : Int) (a4 : Int) (r : z_M → Int → z_O) (k : z_M → z_O) : z_O := z_let (z_w (a4 + 1)) (fun x57 => if 0 ≤ x57 ∧ x57 < (L : Int) then z_let (Int32.toInt (xs (Int.toNat x57))) (fun x58 => z_let (z_w (a4 + 2)) (fun x59 => if 0 ≤ x59 ∧ x59 < (L : Int) then z_let (Int32.toInt (xs (Int.toNat x59))) (fun x60 => z_bI (fL_set fu s a1 x58 x60 a3) (fun x62 s61 => z_let (z_w (a4 + 1)) (fun x63 => if 0 ≤ x63 ∧ x63 < (L : Int) then z_let (Int32.toInt (xs (Int.toNat x63))) (fun x64 => z_let (z_w (a4 + 2)) (fun x65 => if 0 ≤ x65 ∧ x65 < (L : Int) then z_let (Int32.toInt (xs (Int.toNat x65))) (fun x66 => if z_ob a2 12 then z_bI (fX12_set fu s61 a2 x64 x66) (fun x68 s67 => if z_ob a2 12 then z_bI (fX12_thrown fu s67 a2) (fun x70 s69 => if (x70 : Int) = x62 then (if (x62 : Int) ≠ 0 then (fL_law_J451 fu L xs s69 a1 a2 a3 a4 (fun w v4 => r w v4) k) else (if z_ix a3 101 0 then z_let (s69 a3 0) (fun x71 => z_let (z_cmp x71 x68) (fun x72 => if (x72 : Int) = 0 then (fL_law_J451 fu L xs s69 a1 a2 a3 a4 (fun w v4 => r w v4) k) else (if z_bl 0 then some (vI 0, s69) else none))) else none)) else (if z_bl 0 then some (vI 0, s69) else none)) else none) else none) else none)) else none))) else none)) else none)
theorem gL_law_J386 {l : Launch} {K : z_K} (hst : l.stackTraces = false) (fu F : Nat) (s : z_M) (a1 : Int) (a2 : Int) (a3 : Int) (a4 : Int) (r : z_M → Int → z_O) (k : z_M → z_O) (hr : ∀ (s : z_M) (a4 : Int), G l K mL_law 13 295 (4 * F) (24 * F) 23 [vA K.2.2.2.2.2.1, vR a1, vR a2, vR a3, vI a4, vU, vU, vU] [] s (r s a4)) (hk : ∀ (s : z_M), G l K mL_law 13 295 0 0 2079 [vA K.2.2.2.2.2.1, vU, vU, vU, vU, vU, vU, vU] [] s (k s)) : G l K mL_law 13 295 (4 * F + 2) (24 * F + 12) 386 [vA K.2.2.2.2.2.1, vR a1, vR a2, vR a3, vI a4, vU, vU, vU] [] s (fL_law_J386 fu K.2.2.2.2.2.2.1 K.2.2.2.2.2.2.2 s a1 a2 a3 a4 r k) := by
  unfold fL_law_J386
  refine G_aload_n (x := a1) (pc := 386) dL_law_386 rfl ?_
  refine G_sload_n (pc := 387) dL_law_387 rfl ?_
  refine G_iload (x := a4) (pc := 388) dL_law_388 rfl ?_
  refine G_iconst (pc := 390) dL_law_390 ?_
  refine G_iadd (pc := 391) dL_law_391 (fun x57 => ?_)
  refine G_sald (pc := 392) dL_law_392 (fun x58 => ?_)
  refine G_sload_n (pc := 393) dL_law_393 rfl ?_
  refine G_iload (x := a4) (pc := 394) dL_law_394 rfl ?_
  refine G_iconst (pc := 396) dL_law_396 ?_
  refine G_iadd (pc := 397) dL_law_397 (fun x59 => ?_)
  refine G_sald (pc := 398) dL_law_398 (fun x60 => ?_)
  refine G_aload_n (x := a3) (pc := 399) dL_law_399 rfl ?_
  refine G_callSI (as := [vR a1, vI x58, vI x60, vR a3]) (st := []) (bc2 := (4 * F)) (bs2 := (24 * F)) (pc := 400) dL_law_400 z_mL_set z_sL_set z_wL_126 (gL_set hst fu s a1 x58 x60 a3) rfl rfl ⟨by decide, by decide, by omega, by omega, Nat.le_of_ble_eq_true rfl⟩ rfl (fun x62 s61 => ?_)
  refine G_istore (lv' := [vA K.2.2.2.2.2.1, vR a1, vR a2, vR a3, vI a4, vI x62, vU, vU]) (pc := 403) dL_law_403 rfl ?_
  refine G_aload_n (x := a2) (pc := 405) dL_law_405 rfl ?_
  refine G_sload_n (pc := 406) dL_law_406 rfl ?_
  refine G_iload (x := a4) (pc := 407) dL_law_407 rfl ?_
  refine G_iconst (pc := 409) dL_law_409 ?_
  refine G_iadd (pc := 410) dL_law_410 (fun x63 => ?_)
  refine G_sald (pc := 411) dL_law_411 (fun x64 => ?_)
  refine G_sload_n (pc := 412) dL_law_412 rfl ?_
  refine G_iload (x := a4) (pc := 413) dL_law_413 rfl ?_
  refine G_iconst (pc := 415) dL_law_415 ?_
  refine G_iadd (pc := 416) dL_law_416 (fun x65 => ?_)
  refine G_sald (pc := 417) dL_law_417 (fun x66 => ?_)
  refine G_callVI (as := [vI x64, vI x66]) (st := []) (c := 12) (bc2 := (4 * F)) (bs2 := (24 * F)) (pc := 418) dL_law_418 z_mX12_set z_vX12_set z_wL_129 (gX12_set hst fu s61 a2 x64 x66) rfl rfl (by decide) rfl rfl ⟨by decide, by decide, by omega, by omega, Nat.le_of_ble_eq_true rfl⟩ rfl (fun x68 s67 => ?_)
  refine G_istore (lv' := [vA K.2.2.2.2.2.1, vR a1, vR a2, vR a3, vI a4, vI x62, vI x68, vU]) (pc := 421) dL_law_421 rfl ?_
  refine G_aload_n (x := a2) (pc := 423) dL_law_423 rfl ?_
  refine G_callVI (as := []) (st := []) (c := 12) (bc2 := (4 * F)) (bs2 := (24 * F)) (pc := 424) dL_law_424 z_mX12_thrown z_vX12_thrown z_wL_115 (gX12_thrown hst fu s67 a2) rfl rfl (by decide) rfl rfl ⟨by decide, by decide, by omega, by omega, Nat.le_of_ble_eq_true rfl⟩ rfl (fun x70 s69 => ?_)
  refine G_iload (x := x62) (pc := 427) dL_law_427 rfl ?_
  refine G_icmp_eq (tgt := 434) (pc := 429) dL_law_429 ?_ ?_
  · refine G_iload (x := x62) (pc := 434) dL_law_434 rfl ?_
    refine G_if_ne (tgt := 451) (pc := 436) dL_law_436 ?_ ?_
    · refine G_less (bc2 := (4 * F)) (bs2 := (24 * F)) (by omega) (by omega) ?_
      refine G_fg (lv2 := [vA K.2.2.2.2.2.1, vR a1, vR a2, vR a3, vI a4, vU, vU, vU]) ⟨Or.inr rfl, Or.inr rfl, Or.inr rfl, Or.inr rfl, Or.inr rfl, Or.inl rfl, Or.inl rfl, Or.inl rfl, trivial⟩ ?_
      exact gL_law_J451 hst fu F s69 a1 a2 a3 a4 _ _ (fun w v4 => hr w v4) hk
    · refine G_aload_n (x := a3) (pc := 439) dL_law_439 rfl ?_
      refine G_iconst (pc := 440) dL_law_440 ?_
      refine G_lald (pc := 441) dL_law_441 (fun x71 => ?_)
      refine G_iload (x := x68) (pc := 442) dL_law_442 rfl ?_
      refine G_i2l (pc := 444) dL_law_444 ?_
      refine G_lcmp (pc := 445) dL_law_445 (fun x72 => ?_)
      refine G_if_eq (tgt := 451) (pc := 446) dL_law_446 ?_ ?_
      · refine G_less (bc2 := (4 * F)) (bs2 := (24 * F)) (by omega) (by omega) ?_
        refine G_fg (lv2 := [vA K.2.2.2.2.2.1, vR a1, vR a2, vR a3, vI a4, vU, vU, vU]) ⟨Or.inr rfl, Or.inr rfl, Or.inr rfl, Or.inr rfl, Or.inr rfl, Or.inl rfl, Or.inl rfl, Or.inl rfl, trivial⟩ ?_
        exact gL_law_J451 hst fu F s69 a1 a2 a3 a4 _ _ (fun w v4 => hr w v4) hk
      · refine G_iconst (pc := 449) dL_law_449 ?_
        exact G_zret (pc := 450) dL_law_450
  · refine G_iconst (pc := 432) dL_law_432 ?_
    exact G_zret (pc := 433) dL_law_433
def fL_law_J519 (fu L : Nat) (xs : Nat → Int32) (s : z_M) (a1 : Int) (a2 : Int) (a3 : Int) (a4 : Int) (r : z_M → Int → z_O) (k : z_M → z_O) : z_O := fL_law_J2073 fu L xs s a1 a2 a3 a4 (fun w v4 => r w v4) k
theorem gL_law_J519 {l : Launch} {K : z_K} (hst : l.stackTraces = false) (fu F : Nat) (s : z_M) (a1 : Int) (a2 : Int) (a3 : Int) (a4 : Int) (r : z_M → Int → z_O) (k : z_M → z_O) (hr : ∀ (s : z_M) (a4 : Int), G l K mL_law 13 295 (4 * F) (24 * F) 23 [vA K.2.2.2.2.2.1, vR a1, vR a2, vR a3, vI a4, vU, vU, vU] [] s (r s a4)) (hk : ∀ (s : z_M), G l K mL_law 13 295 0 0 2079 [vA K.2.2.2.2.2.1, vU, vU, vU, vU, vU, vU, vU] [] s (k s)) : G l K mL_law 13 295 (4 * F) (24 * F) 519 [vA K.2.2.2.2.2.1, vR a1, vR a2, vR a3, vI a4, vU, vU, vU] [] s (fL_law_J519 fu K.2.2.2.2.2.2.1 K.2.2.2.2.2.2.2 s a1 a2 a3 a4 r k) := by
  unfold fL_law_J519
  refine G_goto (tgt := 2073) (pc := 519) dL_law_519 ?_
  refine G_less (bc2 := (4 * F)) (bs2 := (24 * F)) (by omega) (by omega) ?_
  exact gL_law_J2073 hst fu F s a1 a2 a3 a4 _ _ (fun w v4 => hr w v4) hk
def fL_law_J454 (fu L : Nat) (xs : Nat → Int32) (s : z_M) (a1 : Int) (a2 : Int) (a3 : Int) (a4 : Int) (r : z_M → Int → z_O) (k : z_M → z_O) : z_O := z_let (z_w (a4 + 1)) (fun x73 => if 0 ≤ x73 ∧ x73 < (L : Int) then z_let (Int32.toInt (xs (Int.toNat x73))) (fun x74 => z_let (z_w (a4 + 2)) (fun x75 => if 0 ≤ x75 ∧ x75 < (L : Int) then z_let (Int32.toInt (xs (Int.toNat x75))) (fun x76 => z_bI (fL_cut fu s a1 x74 x76 a3) (fun x78 s77 => z_let (z_w (a4 + 1)) (fun x79 => if 0 ≤ x79 ∧ x79 < (L : Int) then z_let (Int32.toInt (xs (Int.toNat x79))) (fun x80 => z_let (z_w (a4 + 2)) (fun x81 => if 0 ≤ x81 ∧ x81 < (L : Int) then z_let (Int32.toInt (xs (Int.toNat x81))) (fun x82 => if z_ob a2 12 then z_bI (fX12_cut fu s77 a2 x80 x82) (fun x84 s83 => if z_ob a2 12 then z_bI (fX12_thrown fu s83 a2) (fun x86 s85 => if (x86 : Int) = x78 then (if (x78 : Int) ≠ 0 then (fL_law_J519 fu L xs s85 a1 a2 a3 a4 (fun w v4 => r w v4) k) else (if z_ix a3 101 0 then z_let (s85 a3 0) (fun x87 => z_let (z_cmp x87 x84) (fun x88 => if (x88 : Int) = 0 then (fL_law_J519 fu L xs s85 a1 a2 a3 a4 (fun w v4 => r w v4) k) else (if z_bl 0 then some (vI 0, s85) else none))) else none)) else (if z_bl 0 then some (vI 0, s85) else none)) else none) else none) else none)) else none))) else none)) else none)
theorem gL_law_J454 {l : Launch} {K : z_K} (hst : l.stackTraces = false) (fu F : Nat) (s : z_M) (a1 : Int) (a2 : Int) (a3 : Int) (a4 : Int) (r : z_M → Int → z_O) (k : z_M → z_O) (hr : ∀ (s : z_M) (a4 : Int), G l K mL_law 13 295 (4 * F) (24 * F) 23 [vA K.2.2.2.2.2.1, vR a1, vR a2, vR a3, vI a4, vU, vU, vU] [] s (r s a4)) (hk : ∀ (s : z_M), G l K mL_law 13 295 0 0 2079 [vA K.2.2.2.2.2.1, vU, vU, vU, vU, vU, vU, vU] [] s (k s)) : G l K mL_law 13 295 (4 * F + 3) (24 * F + 18) 454 [vA K.2.2.2.2.2.1, vR a1, vR a2, vR a3, vI a4, vU, vU, vU] [] s (fL_law_J454 fu K.2.2.2.2.2.2.1 K.2.2.2.2.2.2.2 s a1 a2 a3 a4 r k) := by
  unfold fL_law_J454
  refine G_aload_n (x := a1) (pc := 454) dL_law_454 rfl ?_
  refine G_sload_n (pc := 455) dL_law_455 rfl ?_
  refine G_iload (x := a4) (pc := 456) dL_law_456 rfl ?_
  refine G_iconst (pc := 458) dL_law_458 ?_
  refine G_iadd (pc := 459) dL_law_459 (fun x73 => ?_)
  refine G_sald (pc := 460) dL_law_460 (fun x74 => ?_)
  refine G_sload_n (pc := 461) dL_law_461 rfl ?_
  refine G_iload (x := a4) (pc := 462) dL_law_462 rfl ?_
  refine G_iconst (pc := 464) dL_law_464 ?_
  refine G_iadd (pc := 465) dL_law_465 (fun x75 => ?_)
  refine G_sald (pc := 466) dL_law_466 (fun x76 => ?_)
  refine G_aload_n (x := a3) (pc := 467) dL_law_467 rfl ?_
  refine G_callSI (as := [vR a1, vI x74, vI x76, vR a3]) (st := []) (bc2 := (4 * F)) (bs2 := (24 * F)) (pc := 468) dL_law_468 z_mL_cut z_sL_cut z_wL_130 (gL_cut hst fu s a1 x74 x76 a3) rfl rfl ⟨by decide, by decide, by omega, by omega, Nat.le_of_ble_eq_true rfl⟩ rfl (fun x78 s77 => ?_)
  refine G_istore (lv' := [vA K.2.2.2.2.2.1, vR a1, vR a2, vR a3, vI a4, vI x78, vU, vU]) (pc := 471) dL_law_471 rfl ?_
  refine G_aload_n (x := a2) (pc := 473) dL_law_473 rfl ?_
  refine G_sload_n (pc := 474) dL_law_474 rfl ?_
  refine G_iload (x := a4) (pc := 475) dL_law_475 rfl ?_
  refine G_iconst (pc := 477) dL_law_477 ?_
  refine G_iadd (pc := 478) dL_law_478 (fun x79 => ?_)
  refine G_sald (pc := 479) dL_law_479 (fun x80 => ?_)
  refine G_sload_n (pc := 480) dL_law_480 rfl ?_
  refine G_iload (x := a4) (pc := 481) dL_law_481 rfl ?_
  refine G_iconst (pc := 483) dL_law_483 ?_
  refine G_iadd (pc := 484) dL_law_484 (fun x81 => ?_)
  refine G_sald (pc := 485) dL_law_485 (fun x82 => ?_)
  refine G_callVI (as := [vI x80, vI x82]) (st := []) (c := 12) (bc2 := (4 * F)) (bs2 := (24 * F)) (pc := 486) dL_law_486 z_mX12_cut z_vX12_cut z_wL_132 (gX12_cut hst fu s77 a2 x80 x82) rfl rfl (by decide) rfl rfl ⟨by decide, by decide, by omega, by omega, Nat.le_of_ble_eq_true rfl⟩ rfl (fun x84 s83 => ?_)
  refine G_istore (lv' := [vA K.2.2.2.2.2.1, vR a1, vR a2, vR a3, vI a4, vI x78, vI x84, vU]) (pc := 489) dL_law_489 rfl ?_
  refine G_aload_n (x := a2) (pc := 491) dL_law_491 rfl ?_
  refine G_callVI (as := []) (st := []) (c := 12) (bc2 := (4 * F)) (bs2 := (24 * F)) (pc := 492) dL_law_492 z_mX12_thrown z_vX12_thrown z_wL_115 (gX12_thrown hst fu s83 a2) rfl rfl (by decide) rfl rfl ⟨by decide, by decide, by omega, by omega, Nat.le_of_ble_eq_true rfl⟩ rfl (fun x86 s85 => ?_)
  refine G_iload (x := x78) (pc := 495) dL_law_495 rfl ?_
  refine G_icmp_eq (tgt := 502) (pc := 497) dL_law_497 ?_ ?_
  · refine G_iload (x := x78) (pc := 502) dL_law_502 rfl ?_
    refine G_if_ne (tgt := 519) (pc := 504) dL_law_504 ?_ ?_
    · refine G_less (bc2 := (4 * F)) (bs2 := (24 * F)) (by omega) (by omega) ?_
      refine G_fg (lv2 := [vA K.2.2.2.2.2.1, vR a1, vR a2, vR a3, vI a4, vU, vU, vU]) ⟨Or.inr rfl, Or.inr rfl, Or.inr rfl, Or.inr rfl, Or.inr rfl, Or.inl rfl, Or.inl rfl, Or.inl rfl, trivial⟩ ?_
      exact gL_law_J519 hst fu F s85 a1 a2 a3 a4 _ _ (fun w v4 => hr w v4) hk
    · refine G_aload_n (x := a3) (pc := 507) dL_law_507 rfl ?_
      refine G_iconst (pc := 508) dL_law_508 ?_
      refine G_lald (pc := 509) dL_law_509 (fun x87 => ?_)
      refine G_iload (x := x84) (pc := 510) dL_law_510 rfl ?_
      refine G_i2l (pc := 512) dL_law_512 ?_
      refine G_lcmp (pc := 513) dL_law_513 (fun x88 => ?_)
      refine G_if_eq (tgt := 519) (pc := 514) dL_law_514 ?_ ?_
      · refine G_less (bc2 := (4 * F)) (bs2 := (24 * F)) (by omega) (by omega) ?_
        refine G_fg (lv2 := [vA K.2.2.2.2.2.1, vR a1, vR a2, vR a3, vI a4, vU, vU, vU]) ⟨Or.inr rfl, Or.inr rfl, Or.inr rfl, Or.inr rfl, Or.inr rfl, Or.inl rfl, Or.inl rfl, Or.inl rfl, trivial⟩ ?_
        exact gL_law_J519 hst fu F s85 a1 a2 a3 a4 _ _ (fun w v4 => hr w v4) hk
      · refine G_iconst (pc := 517) dL_law_517 ?_
        exact G_zret (pc := 518) dL_law_518
  · refine G_iconst (pc := 500) dL_law_500 ?_
    exact G_zret (pc := 501) dL_law_501
def fL_law_J522 (fu L : Nat) (xs : Nat → Int32) (s : z_M) (a1 : Int) (a2 : Int) (a3 : Int) (a4 : Int) (r : z_M → Int → z_O) (k : z_M → z_O) : z_O := if z_ob a1 11 then z_bI (fX11_undo fu s a1) (fun x90 s89 => if z_ob a2 12 then z_bI (fX12_undo fu s89 a2) (fun x92 s91 => if (x90 : Int) = x92 then (fL_law_J2073 fu L xs s91 a1 a2 a3 a4 (fun w v4 => r w v4) k) else (if z_bl 0 then some (vI 0, s91) else none)) else none) else none
theorem gL_law_J522 {l : Launch} {K : z_K} (hst : l.stackTraces = false) (fu F : Nat) (s : z_M) (a1 : Int) (a2 : Int) (a3 : Int) (a4 : Int) (r : z_M → Int → z_O) (k : z_M → z_O) (hr : ∀ (s : z_M) (a4 : Int), G l K mL_law 13 295 (4 * F) (24 * F) 23 [vA K.2.2.2.2.2.1, vR a1, vR a2, vR a3, vI a4, vU, vU, vU] [] s (r s a4)) (hk : ∀ (s : z_M), G l K mL_law 13 295 0 0 2079 [vA K.2.2.2.2.2.1, vU, vU, vU, vU, vU, vU, vU] [] s (k s)) : G l K mL_law 13 295 (4 * F) (24 * F) 522 [vA K.2.2.2.2.2.1, vR a1, vR a2, vR a3, vI a4, vU, vU, vU] [] s (fL_law_J522 fu K.2.2.2.2.2.2.1 K.2.2.2.2.2.2.2 s a1 a2 a3 a4 r k) := by
  unfold fL_law_J522
  refine G_aload_n (x := a1) (pc := 522) dL_law_522 rfl ?_
  refine G_callVI (as := []) (st := []) (c := 11) (bc2 := (4 * F)) (bs2 := (24 * F)) (pc := 523) dL_law_523 z_mX11_undo z_vX11_undo z_wL_133 (gX11_undo hst fu s a1) rfl rfl (by decide) rfl rfl ⟨by decide, by decide, by omega, by omega, Nat.le_of_ble_eq_true rfl⟩ rfl (fun x90 s89 => ?_)
  refine G_aload_n (x := a2) (pc := 526) dL_law_526 rfl ?_
  refine G_callVI (as := []) (st := [vI x90]) (c := 12) (bc2 := (4 * F)) (bs2 := (24 * F)) (pc := 527) dL_law_527 z_mX12_undo z_vX12_undo z_wL_136 (gX12_undo hst fu s89 a2) rfl rfl (by decide) rfl rfl ⟨by decide, by decide, by omega, by omega, Nat.le_of_ble_eq_true rfl⟩ rfl (fun x92 s91 => ?_)
  refine G_icmp_eq (tgt := 2073) (pc := 530) dL_law_530 ?_ ?_
  · refine G_less (bc2 := (4 * F)) (bs2 := (24 * F)) (by omega) (by omega) ?_
    exact gL_law_J2073 hst fu F s91 a1 a2 a3 a4 _ _ (fun w v4 => hr w v4) hk
  · refine G_iconst (pc := 533) dL_law_533 ?_
    exact G_zret (pc := 534) dL_law_534
def fL_law_J587 (fu L : Nat) (xs : Nat → Int32) (s : z_M) (a1 : Int) (a2 : Int) (a3 : Int) (a4 : Int) (r : z_M → Int → z_O) (k : z_M → z_O) : z_O := fL_law_J2073 fu L xs s a1 a2 a3 a4 (fun w v4 => r w v4) k
theorem gL_law_J587 {l : Launch} {K : z_K} (hst : l.stackTraces = false) (fu F : Nat) (s : z_M) (a1 : Int) (a2 : Int) (a3 : Int) (a4 : Int) (r : z_M → Int → z_O) (k : z_M → z_O) (hr : ∀ (s : z_M) (a4 : Int), G l K mL_law 13 295 (4 * F) (24 * F) 23 [vA K.2.2.2.2.2.1, vR a1, vR a2, vR a3, vI a4, vU, vU, vU] [] s (r s a4)) (hk : ∀ (s : z_M), G l K mL_law 13 295 0 0 2079 [vA K.2.2.2.2.2.1, vU, vU, vU, vU, vU, vU, vU] [] s (k s)) : G l K mL_law 13 295 (4 * F) (24 * F) 587 [vA K.2.2.2.2.2.1, vR a1, vR a2, vR a3, vI a4, vU, vU, vU] [] s (fL_law_J587 fu K.2.2.2.2.2.2.1 K.2.2.2.2.2.2.2 s a1 a2 a3 a4 r k) := by
  unfold fL_law_J587
  refine G_goto (tgt := 2073) (pc := 587) dL_law_587 ?_
  refine G_less (bc2 := (4 * F)) (bs2 := (24 * F)) (by omega) (by omega) ?_
  exact gL_law_J2073 hst fu F s a1 a2 a3 a4 _ _ (fun w v4 => hr w v4) hk
def fL_law_J535 (fu L : Nat) (xs : Nat → Int32) (s : z_M) (a1 : Int) (a2 : Int) (a3 : Int) (a4 : Int) (r : z_M → Int → z_O) (k : z_M → z_O) : z_O := z_let (z_w (a4 + 1)) (fun x93 => if 0 ≤ x93 ∧ x93 < (L : Int) then z_let (Int32.toInt (xs (Int.toNat x93))) (fun x94 => z_bI (fL_told fu s a1 x94 a3) (fun x96 s95 => z_let (z_w (a4 + 1)) (fun x97 => if 0 ≤ x97 ∧ x97 < (L : Int) then z_let (Int32.toInt (xs (Int.toNat x97))) (fun x98 => if z_ob a2 12 then z_bL (fX12_told fu s95 a2 x98) (fun x100 s99 => if z_ob a2 12 then z_bI (fX12_thrown fu s99 a2) (fun x102 s101 => if (x102 : Int) = x96 then (if (x96 : Int) ≠ 0 then (fL_law_J587 fu L xs s101 a1 a2 a3 a4 (fun w v4 => r w v4) k) else (if z_ix a3 101 0 then z_let (s101 a3 0) (fun x103 => z_let (z_cmp x103 x100) (fun x104 => if (x104 : Int) = 0 then (fL_law_J587 fu L xs s101 a1 a2 a3 a4 (fun w v4 => r w v4) k) else (if z_bl 0 then some (vI 0, s101) else none))) else none)) else (if z_bl 0 then some (vI 0, s101) else none)) else none) else none) else none))) else none)
theorem gL_law_J535 {l : Launch} {K : z_K} (hst : l.stackTraces = false) (fu F : Nat) (s : z_M) (a1 : Int) (a2 : Int) (a3 : Int) (a4 : Int) (r : z_M → Int → z_O) (k : z_M → z_O) (hr : ∀ (s : z_M) (a4 : Int), G l K mL_law 13 295 (4 * F) (24 * F) 23 [vA K.2.2.2.2.2.1, vR a1, vR a2, vR a3, vI a4, vU, vU, vU] [] s (r s a4)) (hk : ∀ (s : z_M), G l K mL_law 13 295 0 0 2079 [vA K.2.2.2.2.2.1, vU, vU, vU, vU, vU, vU, vU] [] s (k s)) : G l K mL_law 13 295 (4 * F + 1) (24 * F + 6) 535 [vA K.2.2.2.2.2.1, vR a1, vR a2, vR a3, vI a4, vU, vU, vU] [] s (fL_law_J535 fu K.2.2.2.2.2.2.1 K.2.2.2.2.2.2.2 s a1 a2 a3 a4 r k) := by
  unfold fL_law_J535
  refine G_aload_n (x := a1) (pc := 535) dL_law_535 rfl ?_
  refine G_sload_n (pc := 536) dL_law_536 rfl ?_
  refine G_iload (x := a4) (pc := 537) dL_law_537 rfl ?_
  refine G_iconst (pc := 539) dL_law_539 ?_
  refine G_iadd (pc := 540) dL_law_540 (fun x93 => ?_)
  refine G_sald (pc := 541) dL_law_541 (fun x94 => ?_)
  refine G_aload_n (x := a3) (pc := 542) dL_law_542 rfl ?_
  refine G_callSI (as := [vR a1, vI x94, vR a3]) (st := []) (bc2 := (4 * F)) (bs2 := (24 * F)) (pc := 543) dL_law_543 z_mL_told z_sL_told z_wL_137 (gL_told hst fu s a1 x94 a3) rfl rfl ⟨by decide, by decide, by omega, by omega, Nat.le_of_ble_eq_true rfl⟩ rfl (fun x96 s95 => ?_)
  refine G_istore (lv' := [vA K.2.2.2.2.2.1, vR a1, vR a2, vR a3, vI a4, vI x96, vU, vU]) (pc := 546) dL_law_546 rfl ?_
  refine G_aload_n (x := a2) (pc := 548) dL_law_548 rfl ?_
  refine G_sload_n (pc := 549) dL_law_549 rfl ?_
  refine G_iload (x := a4) (pc := 550) dL_law_550 rfl ?_
  refine G_iconst (pc := 552) dL_law_552 ?_
  refine G_iadd (pc := 553) dL_law_553 (fun x97 => ?_)
  refine G_sald (pc := 554) dL_law_554 (fun x98 => ?_)
  refine G_callVL (as := [vI x98]) (st := []) (c := 12) (bc2 := (4 * F)) (bs2 := (24 * F)) (pc := 555) dL_law_555 z_mX12_told z_vX12_told z_wL_139 (gX12_told hst fu s95 a2 x98) rfl rfl (by decide) rfl rfl ⟨by decide, by decide, by omega, by omega, Nat.le_of_ble_eq_true rfl⟩ rfl (fun x100 s99 => ?_)
  refine G_lstore (lv' := [vA K.2.2.2.2.2.1, vR a1, vR a2, vR a3, vI a4, vI x96, vL x100, vU]) (pc := 558) dL_law_558 rfl ?_
  refine G_aload_n (x := a2) (pc := 560) dL_law_560 rfl ?_
  refine G_callVI (as := []) (st := []) (c := 12) (bc2 := (4 * F)) (bs2 := (24 * F)) (pc := 561) dL_law_561 z_mX12_thrown z_vX12_thrown z_wL_115 (gX12_thrown hst fu s99 a2) rfl rfl (by decide) rfl rfl ⟨by decide, by decide, by omega, by omega, Nat.le_of_ble_eq_true rfl⟩ rfl (fun x102 s101 => ?_)
  refine G_iload (x := x96) (pc := 564) dL_law_564 rfl ?_
  refine G_icmp_eq (tgt := 571) (pc := 566) dL_law_566 ?_ ?_
  · refine G_iload (x := x96) (pc := 571) dL_law_571 rfl ?_
    refine G_if_ne (tgt := 587) (pc := 573) dL_law_573 ?_ ?_
    · refine G_less (bc2 := (4 * F)) (bs2 := (24 * F)) (by omega) (by omega) ?_
      refine G_fg (lv2 := [vA K.2.2.2.2.2.1, vR a1, vR a2, vR a3, vI a4, vU, vU, vU]) ⟨Or.inr rfl, Or.inr rfl, Or.inr rfl, Or.inr rfl, Or.inr rfl, Or.inl rfl, Or.inl rfl, Or.inl rfl, trivial⟩ ?_
      exact gL_law_J587 hst fu F s101 a1 a2 a3 a4 _ _ (fun w v4 => hr w v4) hk
    · refine G_aload_n (x := a3) (pc := 576) dL_law_576 rfl ?_
      refine G_iconst (pc := 577) dL_law_577 ?_
      refine G_lald (pc := 578) dL_law_578 (fun x103 => ?_)
      refine G_lload (x := x100) (pc := 579) dL_law_579 rfl ?_
      refine G_lcmp (pc := 581) dL_law_581 (fun x104 => ?_)
      refine G_if_eq (tgt := 587) (pc := 582) dL_law_582 ?_ ?_
      · refine G_less (bc2 := (4 * F)) (bs2 := (24 * F)) (by omega) (by omega) ?_
        refine G_fg (lv2 := [vA K.2.2.2.2.2.1, vR a1, vR a2, vR a3, vI a4, vU, vU, vU]) ⟨Or.inr rfl, Or.inr rfl, Or.inr rfl, Or.inr rfl, Or.inr rfl, Or.inl rfl, Or.inl rfl, Or.inl rfl, trivial⟩ ?_
        exact gL_law_J587 hst fu F s101 a1 a2 a3 a4 _ _ (fun w v4 => hr w v4) hk
      · refine G_iconst (pc := 585) dL_law_585 ?_
        exact G_zret (pc := 586) dL_law_586
  · refine G_iconst (pc := 569) dL_law_569 ?_
    exact G_zret (pc := 570) dL_law_570
def fL_law_J655 (fu L : Nat) (xs : Nat → Int32) (s : z_M) (a1 : Int) (a2 : Int) (a3 : Int) (a4 : Int) (r : z_M → Int → z_O) (k : z_M → z_O) : z_O := fL_law_J2073 fu L xs s a1 a2 a3 a4 (fun w v4 => r w v4) k
theorem gL_law_J655 {l : Launch} {K : z_K} (hst : l.stackTraces = false) (fu F : Nat) (s : z_M) (a1 : Int) (a2 : Int) (a3 : Int) (a4 : Int) (r : z_M → Int → z_O) (k : z_M → z_O) (hr : ∀ (s : z_M) (a4 : Int), G l K mL_law 13 295 (4 * F) (24 * F) 23 [vA K.2.2.2.2.2.1, vR a1, vR a2, vR a3, vI a4, vU, vU, vU] [] s (r s a4)) (hk : ∀ (s : z_M), G l K mL_law 13 295 0 0 2079 [vA K.2.2.2.2.2.1, vU, vU, vU, vU, vU, vU, vU] [] s (k s)) : G l K mL_law 13 295 (4 * F) (24 * F) 655 [vA K.2.2.2.2.2.1, vR a1, vR a2, vR a3, vI a4, vU, vU, vU] [] s (fL_law_J655 fu K.2.2.2.2.2.2.1 K.2.2.2.2.2.2.2 s a1 a2 a3 a4 r k) := by
  unfold fL_law_J655
  refine G_goto (tgt := 2073) (pc := 655) dL_law_655 ?_
  refine G_less (bc2 := (4 * F)) (bs2 := (24 * F)) (by omega) (by omega) ?_
  exact gL_law_J2073 hst fu F s a1 a2 a3 a4 _ _ (fun w v4 => hr w v4) hk
def fL_law_J590 (fu L : Nat) (xs : Nat → Int32) (s : z_M) (a1 : Int) (a2 : Int) (a3 : Int) (a4 : Int) (r : z_M → Int → z_O) (k : z_M → z_O) : z_O := z_let (z_w (a4 + 1)) (fun x105 => if 0 ≤ x105 ∧ x105 < (L : Int) then z_let (Int32.toInt (xs (Int.toNat x105))) (fun x106 => z_let (z_w (a4 + 2)) (fun x107 => if 0 ≤ x107 ∧ x107 < (L : Int) then z_let (Int32.toInt (xs (Int.toNat x107))) (fun x108 => z_bI (fL_unit fu s a1 x106 x108 a3) (fun x110 s109 => z_let (z_w (a4 + 1)) (fun x111 => if 0 ≤ x111 ∧ x111 < (L : Int) then z_let (Int32.toInt (xs (Int.toNat x111))) (fun x112 => z_let (z_w (a4 + 2)) (fun x113 => if 0 ≤ x113 ∧ x113 < (L : Int) then z_let (Int32.toInt (xs (Int.toNat x113))) (fun x114 => if z_ob a2 12 then z_bI (fX12_unit fu s109 a2 x112 x114) (fun x116 s115 => if z_ob a2 12 then z_bI (fX12_thrown fu s115 a2) (fun x118 s117 => if (x118 : Int) = x110 then (if (x110 : Int) ≠ 0 then (fL_law_J655 fu L xs s117 a1 a2 a3 a4 (fun w v4 => r w v4) k) else (if z_ix a3 101 0 then z_let (s117 a3 0) (fun x119 => z_let (z_cmp x119 x116) (fun x120 => if (x120 : Int) = 0 then (fL_law_J655 fu L xs s117 a1 a2 a3 a4 (fun w v4 => r w v4) k) else (if z_bl 0 then some (vI 0, s117) else none))) else none)) else (if z_bl 0 then some (vI 0, s117) else none)) else none) else none) else none)) else none))) else none)) else none)
theorem gL_law_J590 {l : Launch} {K : z_K} (hst : l.stackTraces = false) (fu F : Nat) (s : z_M) (a1 : Int) (a2 : Int) (a3 : Int) (a4 : Int) (r : z_M → Int → z_O) (k : z_M → z_O) (hr : ∀ (s : z_M) (a4 : Int), G l K mL_law 13 295 (4 * F) (24 * F) 23 [vA K.2.2.2.2.2.1, vR a1, vR a2, vR a3, vI a4, vU, vU, vU] [] s (r s a4)) (hk : ∀ (s : z_M), G l K mL_law 13 295 0 0 2079 [vA K.2.2.2.2.2.1, vU, vU, vU, vU, vU, vU, vU] [] s (k s)) : G l K mL_law 13 295 (4 * F + 2) (24 * F + 12) 590 [vA K.2.2.2.2.2.1, vR a1, vR a2, vR a3, vI a4, vU, vU, vU] [] s (fL_law_J590 fu K.2.2.2.2.2.2.1 K.2.2.2.2.2.2.2 s a1 a2 a3 a4 r k) := by
  unfold fL_law_J590
  refine G_aload_n (x := a1) (pc := 590) dL_law_590 rfl ?_
  refine G_sload_n (pc := 591) dL_law_591 rfl ?_
  refine G_iload (x := a4) (pc := 592) dL_law_592 rfl ?_
  refine G_iconst (pc := 594) dL_law_594 ?_
  refine G_iadd (pc := 595) dL_law_595 (fun x105 => ?_)
  refine G_sald (pc := 596) dL_law_596 (fun x106 => ?_)
  refine G_sload_n (pc := 597) dL_law_597 rfl ?_
  refine G_iload (x := a4) (pc := 598) dL_law_598 rfl ?_
  refine G_iconst (pc := 600) dL_law_600 ?_
  refine G_iadd (pc := 601) dL_law_601 (fun x107 => ?_)
  refine G_sald (pc := 602) dL_law_602 (fun x108 => ?_)
  refine G_aload_n (x := a3) (pc := 603) dL_law_603 rfl ?_
  refine G_callSI (as := [vR a1, vI x106, vI x108, vR a3]) (st := []) (bc2 := (4 * F)) (bs2 := (24 * F)) (pc := 604) dL_law_604 z_mL_unit z_sL_unit z_wL_140 (gL_unit hst fu s a1 x106 x108 a3) rfl rfl ⟨by decide, by decide, by omega, by omega, Nat.le_of_ble_eq_true rfl⟩ rfl (fun x110 s109 => ?_)
  refine G_istore (lv' := [vA K.2.2.2.2.2.1, vR a1, vR a2, vR a3, vI a4, vI x110, vU, vU]) (pc := 607) dL_law_607 rfl ?_
  refine G_aload_n (x := a2) (pc := 609) dL_law_609 rfl ?_
  refine G_sload_n (pc := 610) dL_law_610 rfl ?_
  refine G_iload (x := a4) (pc := 611) dL_law_611 rfl ?_
  refine G_iconst (pc := 613) dL_law_613 ?_
  refine G_iadd (pc := 614) dL_law_614 (fun x111 => ?_)
  refine G_sald (pc := 615) dL_law_615 (fun x112 => ?_)
  refine G_sload_n (pc := 616) dL_law_616 rfl ?_
  refine G_iload (x := a4) (pc := 617) dL_law_617 rfl ?_
  refine G_iconst (pc := 619) dL_law_619 ?_
  refine G_iadd (pc := 620) dL_law_620 (fun x113 => ?_)
  refine G_sald (pc := 621) dL_law_621 (fun x114 => ?_)
  refine G_callVI (as := [vI x112, vI x114]) (st := []) (c := 12) (bc2 := (4 * F)) (bs2 := (24 * F)) (pc := 622) dL_law_622 z_mX12_unit z_vX12_unit z_wL_142 (gX12_unit hst fu s109 a2 x112 x114) rfl rfl (by decide) rfl rfl ⟨by decide, by decide, by omega, by omega, Nat.le_of_ble_eq_true rfl⟩ rfl (fun x116 s115 => ?_)
  refine G_istore (lv' := [vA K.2.2.2.2.2.1, vR a1, vR a2, vR a3, vI a4, vI x110, vI x116, vU]) (pc := 625) dL_law_625 rfl ?_
  refine G_aload_n (x := a2) (pc := 627) dL_law_627 rfl ?_
  refine G_callVI (as := []) (st := []) (c := 12) (bc2 := (4 * F)) (bs2 := (24 * F)) (pc := 628) dL_law_628 z_mX12_thrown z_vX12_thrown z_wL_115 (gX12_thrown hst fu s115 a2) rfl rfl (by decide) rfl rfl ⟨by decide, by decide, by omega, by omega, Nat.le_of_ble_eq_true rfl⟩ rfl (fun x118 s117 => ?_)
  refine G_iload (x := x110) (pc := 631) dL_law_631 rfl ?_
  refine G_icmp_eq (tgt := 638) (pc := 633) dL_law_633 ?_ ?_
  · refine G_iload (x := x110) (pc := 638) dL_law_638 rfl ?_
    refine G_if_ne (tgt := 655) (pc := 640) dL_law_640 ?_ ?_
    · refine G_less (bc2 := (4 * F)) (bs2 := (24 * F)) (by omega) (by omega) ?_
      refine G_fg (lv2 := [vA K.2.2.2.2.2.1, vR a1, vR a2, vR a3, vI a4, vU, vU, vU]) ⟨Or.inr rfl, Or.inr rfl, Or.inr rfl, Or.inr rfl, Or.inr rfl, Or.inl rfl, Or.inl rfl, Or.inl rfl, trivial⟩ ?_
      exact gL_law_J655 hst fu F s117 a1 a2 a3 a4 _ _ (fun w v4 => hr w v4) hk
    · refine G_aload_n (x := a3) (pc := 643) dL_law_643 rfl ?_
      refine G_iconst (pc := 644) dL_law_644 ?_
      refine G_lald (pc := 645) dL_law_645 (fun x119 => ?_)
      refine G_iload (x := x116) (pc := 646) dL_law_646 rfl ?_
      refine G_i2l (pc := 648) dL_law_648 ?_
      refine G_lcmp (pc := 649) dL_law_649 (fun x120 => ?_)
      refine G_if_eq (tgt := 655) (pc := 650) dL_law_650 ?_ ?_
      · refine G_less (bc2 := (4 * F)) (bs2 := (24 * F)) (by omega) (by omega) ?_
        refine G_fg (lv2 := [vA K.2.2.2.2.2.1, vR a1, vR a2, vR a3, vI a4, vU, vU, vU]) ⟨Or.inr rfl, Or.inr rfl, Or.inr rfl, Or.inr rfl, Or.inr rfl, Or.inl rfl, Or.inl rfl, Or.inl rfl, trivial⟩ ?_
        exact gL_law_J655 hst fu F s117 a1 a2 a3 a4 _ _ (fun w v4 => hr w v4) hk
      · refine G_iconst (pc := 653) dL_law_653 ?_
        exact G_zret (pc := 654) dL_law_654
  · refine G_iconst (pc := 636) dL_law_636 ?_
    exact G_zret (pc := 637) dL_law_637
def fL_law_J723 (fu L : Nat) (xs : Nat → Int32) (s : z_M) (a1 : Int) (a2 : Int) (a3 : Int) (a4 : Int) (r : z_M → Int → z_O) (k : z_M → z_O) : z_O := fL_law_J2073 fu L xs s a1 a2 a3 a4 (fun w v4 => r w v4) k
theorem gL_law_J723 {l : Launch} {K : z_K} (hst : l.stackTraces = false) (fu F : Nat) (s : z_M) (a1 : Int) (a2 : Int) (a3 : Int) (a4 : Int) (r : z_M → Int → z_O) (k : z_M → z_O) (hr : ∀ (s : z_M) (a4 : Int), G l K mL_law 13 295 (4 * F) (24 * F) 23 [vA K.2.2.2.2.2.1, vR a1, vR a2, vR a3, vI a4, vU, vU, vU] [] s (r s a4)) (hk : ∀ (s : z_M), G l K mL_law 13 295 0 0 2079 [vA K.2.2.2.2.2.1, vU, vU, vU, vU, vU, vU, vU] [] s (k s)) : G l K mL_law 13 295 (4 * F) (24 * F) 723 [vA K.2.2.2.2.2.1, vR a1, vR a2, vR a3, vI a4, vU, vU, vU] [] s (fL_law_J723 fu K.2.2.2.2.2.2.1 K.2.2.2.2.2.2.2 s a1 a2 a3 a4 r k) := by
  unfold fL_law_J723
  refine G_goto (tgt := 2073) (pc := 723) dL_law_723 ?_
  refine G_less (bc2 := (4 * F)) (bs2 := (24 * F)) (by omega) (by omega) ?_
  exact gL_law_J2073 hst fu F s a1 a2 a3 a4 _ _ (fun w v4 => hr w v4) hk
def fL_law_J658 (fu L : Nat) (xs : Nat → Int32) (s : z_M) (a1 : Int) (a2 : Int) (a3 : Int) (a4 : Int) (r : z_M → Int → z_O) (k : z_M → z_O) : z_O := z_let (z_w (a4 + 1)) (fun x121 => if 0 ≤ x121 ∧ x121 < (L : Int) then z_let (Int32.toInt (xs (Int.toNat x121))) (fun x122 => z_let (z_w (a4 + 2)) (fun x123 => if 0 ≤ x123 ∧ x123 < (L : Int) then z_let (Int32.toInt (xs (Int.toNat x123))) (fun x124 => z_bI (fL_sign fu s a1 x122 x124 a3) (fun x126 s125 => z_let (z_w (a4 + 1)) (fun x127 => if 0 ≤ x127 ∧ x127 < (L : Int) then z_let (Int32.toInt (xs (Int.toNat x127))) (fun x128 => z_let (z_w (a4 + 2)) (fun x129 => if 0 ≤ x129 ∧ x129 < (L : Int) then z_let (Int32.toInt (xs (Int.toNat x129))) (fun x130 => if z_ob a2 12 then z_bI (fX12_sign fu s125 a2 x128 x130) (fun x132 s131 => if z_ob a2 12 then z_bI (fX12_thrown fu s131 a2) (fun x134 s133 => if (x134 : Int) = x126 then (if (x126 : Int) ≠ 0 then (fL_law_J723 fu L xs s133 a1 a2 a3 a4 (fun w v4 => r w v4) k) else (if z_ix a3 101 0 then z_let (s133 a3 0) (fun x135 => z_let (z_cmp x135 x132) (fun x136 => if (x136 : Int) = 0 then (fL_law_J723 fu L xs s133 a1 a2 a3 a4 (fun w v4 => r w v4) k) else (if z_bl 0 then some (vI 0, s133) else none))) else none)) else (if z_bl 0 then some (vI 0, s133) else none)) else none) else none) else none)) else none))) else none)) else none)
theorem gL_law_J658 {l : Launch} {K : z_K} (hst : l.stackTraces = false) (fu F : Nat) (s : z_M) (a1 : Int) (a2 : Int) (a3 : Int) (a4 : Int) (r : z_M → Int → z_O) (k : z_M → z_O) (hr : ∀ (s : z_M) (a4 : Int), G l K mL_law 13 295 (4 * F) (24 * F) 23 [vA K.2.2.2.2.2.1, vR a1, vR a2, vR a3, vI a4, vU, vU, vU] [] s (r s a4)) (hk : ∀ (s : z_M), G l K mL_law 13 295 0 0 2079 [vA K.2.2.2.2.2.1, vU, vU, vU, vU, vU, vU, vU] [] s (k s)) : G l K mL_law 13 295 (4 * F + 2) (24 * F + 12) 658 [vA K.2.2.2.2.2.1, vR a1, vR a2, vR a3, vI a4, vU, vU, vU] [] s (fL_law_J658 fu K.2.2.2.2.2.2.1 K.2.2.2.2.2.2.2 s a1 a2 a3 a4 r k) := by
  unfold fL_law_J658
  refine G_aload_n (x := a1) (pc := 658) dL_law_658 rfl ?_
  refine G_sload_n (pc := 659) dL_law_659 rfl ?_
  refine G_iload (x := a4) (pc := 660) dL_law_660 rfl ?_
  refine G_iconst (pc := 662) dL_law_662 ?_
  refine G_iadd (pc := 663) dL_law_663 (fun x121 => ?_)
  refine G_sald (pc := 664) dL_law_664 (fun x122 => ?_)
  refine G_sload_n (pc := 665) dL_law_665 rfl ?_
  refine G_iload (x := a4) (pc := 666) dL_law_666 rfl ?_
  refine G_iconst (pc := 668) dL_law_668 ?_
  refine G_iadd (pc := 669) dL_law_669 (fun x123 => ?_)
  refine G_sald (pc := 670) dL_law_670 (fun x124 => ?_)
  refine G_aload_n (x := a3) (pc := 671) dL_law_671 rfl ?_
  refine G_callSI (as := [vR a1, vI x122, vI x124, vR a3]) (st := []) (bc2 := (4 * F)) (bs2 := (24 * F)) (pc := 672) dL_law_672 z_mL_sign z_sL_sign z_wL_143 (gL_sign hst fu s a1 x122 x124 a3) rfl rfl ⟨by decide, by decide, by omega, by omega, Nat.le_of_ble_eq_true rfl⟩ rfl (fun x126 s125 => ?_)
  refine G_istore (lv' := [vA K.2.2.2.2.2.1, vR a1, vR a2, vR a3, vI a4, vI x126, vU, vU]) (pc := 675) dL_law_675 rfl ?_
  refine G_aload_n (x := a2) (pc := 677) dL_law_677 rfl ?_
  refine G_sload_n (pc := 678) dL_law_678 rfl ?_
  refine G_iload (x := a4) (pc := 679) dL_law_679 rfl ?_
  refine G_iconst (pc := 681) dL_law_681 ?_
  refine G_iadd (pc := 682) dL_law_682 (fun x127 => ?_)
  refine G_sald (pc := 683) dL_law_683 (fun x128 => ?_)
  refine G_sload_n (pc := 684) dL_law_684 rfl ?_
  refine G_iload (x := a4) (pc := 685) dL_law_685 rfl ?_
  refine G_iconst (pc := 687) dL_law_687 ?_
  refine G_iadd (pc := 688) dL_law_688 (fun x129 => ?_)
  refine G_sald (pc := 689) dL_law_689 (fun x130 => ?_)
  refine G_callVI (as := [vI x128, vI x130]) (st := []) (c := 12) (bc2 := (4 * F)) (bs2 := (24 * F)) (pc := 690) dL_law_690 z_mX12_sign z_vX12_sign z_wL_145 (gX12_sign hst fu s125 a2 x128 x130) rfl rfl (by decide) rfl rfl ⟨by decide, by decide, by omega, by omega, Nat.le_of_ble_eq_true rfl⟩ rfl (fun x132 s131 => ?_)
  refine G_istore (lv' := [vA K.2.2.2.2.2.1, vR a1, vR a2, vR a3, vI a4, vI x126, vI x132, vU]) (pc := 693) dL_law_693 rfl ?_
  refine G_aload_n (x := a2) (pc := 695) dL_law_695 rfl ?_
  refine G_callVI (as := []) (st := []) (c := 12) (bc2 := (4 * F)) (bs2 := (24 * F)) (pc := 696) dL_law_696 z_mX12_thrown z_vX12_thrown z_wL_115 (gX12_thrown hst fu s131 a2) rfl rfl (by decide) rfl rfl ⟨by decide, by decide, by omega, by omega, Nat.le_of_ble_eq_true rfl⟩ rfl (fun x134 s133 => ?_)
  refine G_iload (x := x126) (pc := 699) dL_law_699 rfl ?_
  refine G_icmp_eq (tgt := 706) (pc := 701) dL_law_701 ?_ ?_
  · refine G_iload (x := x126) (pc := 706) dL_law_706 rfl ?_
    refine G_if_ne (tgt := 723) (pc := 708) dL_law_708 ?_ ?_
    · refine G_less (bc2 := (4 * F)) (bs2 := (24 * F)) (by omega) (by omega) ?_
      refine G_fg (lv2 := [vA K.2.2.2.2.2.1, vR a1, vR a2, vR a3, vI a4, vU, vU, vU]) ⟨Or.inr rfl, Or.inr rfl, Or.inr rfl, Or.inr rfl, Or.inr rfl, Or.inl rfl, Or.inl rfl, Or.inl rfl, trivial⟩ ?_
      exact gL_law_J723 hst fu F s133 a1 a2 a3 a4 _ _ (fun w v4 => hr w v4) hk
    · refine G_aload_n (x := a3) (pc := 711) dL_law_711 rfl ?_
      refine G_iconst (pc := 712) dL_law_712 ?_
      refine G_lald (pc := 713) dL_law_713 (fun x135 => ?_)
      refine G_iload (x := x132) (pc := 714) dL_law_714 rfl ?_
      refine G_i2l (pc := 716) dL_law_716 ?_
      refine G_lcmp (pc := 717) dL_law_717 (fun x136 => ?_)
      refine G_if_eq (tgt := 723) (pc := 718) dL_law_718 ?_ ?_
      · refine G_less (bc2 := (4 * F)) (bs2 := (24 * F)) (by omega) (by omega) ?_
        refine G_fg (lv2 := [vA K.2.2.2.2.2.1, vR a1, vR a2, vR a3, vI a4, vU, vU, vU]) ⟨Or.inr rfl, Or.inr rfl, Or.inr rfl, Or.inr rfl, Or.inr rfl, Or.inl rfl, Or.inl rfl, Or.inl rfl, trivial⟩ ?_
        exact gL_law_J723 hst fu F s133 a1 a2 a3 a4 _ _ (fun w v4 => hr w v4) hk
      · refine G_iconst (pc := 721) dL_law_721 ?_
        exact G_zret (pc := 722) dL_law_722
  · refine G_iconst (pc := 704) dL_law_704 ?_
    exact G_zret (pc := 705) dL_law_705
def fL_law_J791 (fu L : Nat) (xs : Nat → Int32) (s : z_M) (a1 : Int) (a2 : Int) (a3 : Int) (a4 : Int) (r : z_M → Int → z_O) (k : z_M → z_O) : z_O := fL_law_J2073 fu L xs s a1 a2 a3 a4 (fun w v4 => r w v4) k
theorem gL_law_J791 {l : Launch} {K : z_K} (hst : l.stackTraces = false) (fu F : Nat) (s : z_M) (a1 : Int) (a2 : Int) (a3 : Int) (a4 : Int) (r : z_M → Int → z_O) (k : z_M → z_O) (hr : ∀ (s : z_M) (a4 : Int), G l K mL_law 13 295 (4 * F) (24 * F) 23 [vA K.2.2.2.2.2.1, vR a1, vR a2, vR a3, vI a4, vU, vU, vU] [] s (r s a4)) (hk : ∀ (s : z_M), G l K mL_law 13 295 0 0 2079 [vA K.2.2.2.2.2.1, vU, vU, vU, vU, vU, vU, vU] [] s (k s)) : G l K mL_law 13 295 (4 * F) (24 * F) 791 [vA K.2.2.2.2.2.1, vR a1, vR a2, vR a3, vI a4, vU, vU, vU] [] s (fL_law_J791 fu K.2.2.2.2.2.2.1 K.2.2.2.2.2.2.2 s a1 a2 a3 a4 r k) := by
  unfold fL_law_J791
  refine G_goto (tgt := 2073) (pc := 791) dL_law_791 ?_
  refine G_less (bc2 := (4 * F)) (bs2 := (24 * F)) (by omega) (by omega) ?_
  exact gL_law_J2073 hst fu F s a1 a2 a3 a4 _ _ (fun w v4 => hr w v4) hk
def fL_law_J726 (fu L : Nat) (xs : Nat → Int32) (s : z_M) (a1 : Int) (a2 : Int) (a3 : Int) (a4 : Int) (r : z_M → Int → z_O) (k : z_M → z_O) : z_O := z_let (z_w (a4 + 1)) (fun x137 => if 0 ≤ x137 ∧ x137 < (L : Int) then z_let (Int32.toInt (xs (Int.toNat x137))) (fun x138 => z_let (z_w (a4 + 2)) (fun x139 => if 0 ≤ x139 ∧ x139 < (L : Int) then z_let (Int32.toInt (xs (Int.toNat x139))) (fun x140 => z_bI (fL_line fu s a1 x138 x140 a3) (fun x142 s141 => z_let (z_w (a4 + 1)) (fun x143 => if 0 ≤ x143 ∧ x143 < (L : Int) then z_let (Int32.toInt (xs (Int.toNat x143))) (fun x144 => z_let (z_w (a4 + 2)) (fun x145 => if 0 ≤ x145 ∧ x145 < (L : Int) then z_let (Int32.toInt (xs (Int.toNat x145))) (fun x146 => if z_ob a2 12 then z_bI (fX12_line fu s141 a2 x144 x146) (fun x148 s147 => if z_ob a2 12 then z_bI (fX12_thrown fu s147 a2) (fun x150 s149 => if (x150 : Int) = x142 then (if (x142 : Int) ≠ 0 then (fL_law_J791 fu L xs s149 a1 a2 a3 a4 (fun w v4 => r w v4) k) else (if z_ix a3 101 0 then z_let (s149 a3 0) (fun x151 => z_let (z_cmp x151 x148) (fun x152 => if (x152 : Int) = 0 then (fL_law_J791 fu L xs s149 a1 a2 a3 a4 (fun w v4 => r w v4) k) else (if z_bl 0 then some (vI 0, s149) else none))) else none)) else (if z_bl 0 then some (vI 0, s149) else none)) else none) else none) else none)) else none))) else none)) else none)
theorem gL_law_J726 {l : Launch} {K : z_K} (hst : l.stackTraces = false) (fu F : Nat) (s : z_M) (a1 : Int) (a2 : Int) (a3 : Int) (a4 : Int) (r : z_M → Int → z_O) (k : z_M → z_O) (hr : ∀ (s : z_M) (a4 : Int), G l K mL_law 13 295 (4 * F) (24 * F) 23 [vA K.2.2.2.2.2.1, vR a1, vR a2, vR a3, vI a4, vU, vU, vU] [] s (r s a4)) (hk : ∀ (s : z_M), G l K mL_law 13 295 0 0 2079 [vA K.2.2.2.2.2.1, vU, vU, vU, vU, vU, vU, vU] [] s (k s)) : G l K mL_law 13 295 (4 * F + 2) (24 * F + 12) 726 [vA K.2.2.2.2.2.1, vR a1, vR a2, vR a3, vI a4, vU, vU, vU] [] s (fL_law_J726 fu K.2.2.2.2.2.2.1 K.2.2.2.2.2.2.2 s a1 a2 a3 a4 r k) := by
  unfold fL_law_J726
  refine G_aload_n (x := a1) (pc := 726) dL_law_726 rfl ?_
  refine G_sload_n (pc := 727) dL_law_727 rfl ?_
  refine G_iload (x := a4) (pc := 728) dL_law_728 rfl ?_
  refine G_iconst (pc := 730) dL_law_730 ?_
  refine G_iadd (pc := 731) dL_law_731 (fun x137 => ?_)
  refine G_sald (pc := 732) dL_law_732 (fun x138 => ?_)
  refine G_sload_n (pc := 733) dL_law_733 rfl ?_
  refine G_iload (x := a4) (pc := 734) dL_law_734 rfl ?_
  refine G_iconst (pc := 736) dL_law_736 ?_
  refine G_iadd (pc := 737) dL_law_737 (fun x139 => ?_)
  refine G_sald (pc := 738) dL_law_738 (fun x140 => ?_)
  refine G_aload_n (x := a3) (pc := 739) dL_law_739 rfl ?_
  refine G_callSI (as := [vR a1, vI x138, vI x140, vR a3]) (st := []) (bc2 := (4 * F)) (bs2 := (24 * F)) (pc := 740) dL_law_740 z_mL_line z_sL_line z_wL_146 (gL_line hst fu s a1 x138 x140 a3) rfl rfl ⟨by decide, by decide, by omega, by omega, Nat.le_of_ble_eq_true rfl⟩ rfl (fun x142 s141 => ?_)
  refine G_istore (lv' := [vA K.2.2.2.2.2.1, vR a1, vR a2, vR a3, vI a4, vI x142, vU, vU]) (pc := 743) dL_law_743 rfl ?_
  refine G_aload_n (x := a2) (pc := 745) dL_law_745 rfl ?_
  refine G_sload_n (pc := 746) dL_law_746 rfl ?_
  refine G_iload (x := a4) (pc := 747) dL_law_747 rfl ?_
  refine G_iconst (pc := 749) dL_law_749 ?_
  refine G_iadd (pc := 750) dL_law_750 (fun x143 => ?_)
  refine G_sald (pc := 751) dL_law_751 (fun x144 => ?_)
  refine G_sload_n (pc := 752) dL_law_752 rfl ?_
  refine G_iload (x := a4) (pc := 753) dL_law_753 rfl ?_
  refine G_iconst (pc := 755) dL_law_755 ?_
  refine G_iadd (pc := 756) dL_law_756 (fun x145 => ?_)
  refine G_sald (pc := 757) dL_law_757 (fun x146 => ?_)
  refine G_callVI (as := [vI x144, vI x146]) (st := []) (c := 12) (bc2 := (4 * F)) (bs2 := (24 * F)) (pc := 758) dL_law_758 z_mX12_line z_vX12_line z_wL_148 (gX12_line hst fu s141 a2 x144 x146) rfl rfl (by decide) rfl rfl ⟨by decide, by decide, by omega, by omega, Nat.le_of_ble_eq_true rfl⟩ rfl (fun x148 s147 => ?_)
  refine G_istore (lv' := [vA K.2.2.2.2.2.1, vR a1, vR a2, vR a3, vI a4, vI x142, vI x148, vU]) (pc := 761) dL_law_761 rfl ?_
  refine G_aload_n (x := a2) (pc := 763) dL_law_763 rfl ?_
  refine G_callVI (as := []) (st := []) (c := 12) (bc2 := (4 * F)) (bs2 := (24 * F)) (pc := 764) dL_law_764 z_mX12_thrown z_vX12_thrown z_wL_115 (gX12_thrown hst fu s147 a2) rfl rfl (by decide) rfl rfl ⟨by decide, by decide, by omega, by omega, Nat.le_of_ble_eq_true rfl⟩ rfl (fun x150 s149 => ?_)
  refine G_iload (x := x142) (pc := 767) dL_law_767 rfl ?_
  refine G_icmp_eq (tgt := 774) (pc := 769) dL_law_769 ?_ ?_
  · refine G_iload (x := x142) (pc := 774) dL_law_774 rfl ?_
    refine G_if_ne (tgt := 791) (pc := 776) dL_law_776 ?_ ?_
    · refine G_less (bc2 := (4 * F)) (bs2 := (24 * F)) (by omega) (by omega) ?_
      refine G_fg (lv2 := [vA K.2.2.2.2.2.1, vR a1, vR a2, vR a3, vI a4, vU, vU, vU]) ⟨Or.inr rfl, Or.inr rfl, Or.inr rfl, Or.inr rfl, Or.inr rfl, Or.inl rfl, Or.inl rfl, Or.inl rfl, trivial⟩ ?_
      exact gL_law_J791 hst fu F s149 a1 a2 a3 a4 _ _ (fun w v4 => hr w v4) hk
    · refine G_aload_n (x := a3) (pc := 779) dL_law_779 rfl ?_
      refine G_iconst (pc := 780) dL_law_780 ?_
      refine G_lald (pc := 781) dL_law_781 (fun x151 => ?_)
      refine G_iload (x := x148) (pc := 782) dL_law_782 rfl ?_
      refine G_i2l (pc := 784) dL_law_784 ?_
      refine G_lcmp (pc := 785) dL_law_785 (fun x152 => ?_)
      refine G_if_eq (tgt := 791) (pc := 786) dL_law_786 ?_ ?_
      · refine G_less (bc2 := (4 * F)) (bs2 := (24 * F)) (by omega) (by omega) ?_
        refine G_fg (lv2 := [vA K.2.2.2.2.2.1, vR a1, vR a2, vR a3, vI a4, vU, vU, vU]) ⟨Or.inr rfl, Or.inr rfl, Or.inr rfl, Or.inr rfl, Or.inr rfl, Or.inl rfl, Or.inl rfl, Or.inl rfl, trivial⟩ ?_
        exact gL_law_J791 hst fu F s149 a1 a2 a3 a4 _ _ (fun w v4 => hr w v4) hk
      · refine G_iconst (pc := 789) dL_law_789 ?_
        exact G_zret (pc := 790) dL_law_790
  · refine G_iconst (pc := 772) dL_law_772 ?_
    exact G_zret (pc := 773) dL_law_773
def fL_law_J859 (fu L : Nat) (xs : Nat → Int32) (s : z_M) (a1 : Int) (a2 : Int) (a3 : Int) (a4 : Int) (r : z_M → Int → z_O) (k : z_M → z_O) : z_O := fL_law_J2073 fu L xs s a1 a2 a3 a4 (fun w v4 => r w v4) k
theorem gL_law_J859 {l : Launch} {K : z_K} (hst : l.stackTraces = false) (fu F : Nat) (s : z_M) (a1 : Int) (a2 : Int) (a3 : Int) (a4 : Int) (r : z_M → Int → z_O) (k : z_M → z_O) (hr : ∀ (s : z_M) (a4 : Int), G l K mL_law 13 295 (4 * F) (24 * F) 23 [vA K.2.2.2.2.2.1, vR a1, vR a2, vR a3, vI a4, vU, vU, vU] [] s (r s a4)) (hk : ∀ (s : z_M), G l K mL_law 13 295 0 0 2079 [vA K.2.2.2.2.2.1, vU, vU, vU, vU, vU, vU, vU] [] s (k s)) : G l K mL_law 13 295 (4 * F) (24 * F) 859 [vA K.2.2.2.2.2.1, vR a1, vR a2, vR a3, vI a4, vU, vU, vU] [] s (fL_law_J859 fu K.2.2.2.2.2.2.1 K.2.2.2.2.2.2.2 s a1 a2 a3 a4 r k) := by
  unfold fL_law_J859
  refine G_goto (tgt := 2073) (pc := 859) dL_law_859 ?_
  refine G_less (bc2 := (4 * F)) (bs2 := (24 * F)) (by omega) (by omega) ?_
  exact gL_law_J2073 hst fu F s a1 a2 a3 a4 _ _ (fun w v4 => hr w v4) hk
def fL_law_J794 (fu L : Nat) (xs : Nat → Int32) (s : z_M) (a1 : Int) (a2 : Int) (a3 : Int) (a4 : Int) (r : z_M → Int → z_O) (k : z_M → z_O) : z_O := z_let (z_w (a4 + 1)) (fun x153 => if 0 ≤ x153 ∧ x153 < (L : Int) then z_let (Int32.toInt (xs (Int.toNat x153))) (fun x154 => z_let (z_w (a4 + 2)) (fun x155 => if 0 ≤ x155 ∧ x155 < (L : Int) then z_let (Int32.toInt (xs (Int.toNat x155))) (fun x156 => z_bI (fL_block fu s a1 x154 x156 a3) (fun x158 s157 => z_let (z_w (a4 + 1)) (fun x159 => if 0 ≤ x159 ∧ x159 < (L : Int) then z_let (Int32.toInt (xs (Int.toNat x159))) (fun x160 => z_let (z_w (a4 + 2)) (fun x161 => if 0 ≤ x161 ∧ x161 < (L : Int) then z_let (Int32.toInt (xs (Int.toNat x161))) (fun x162 => if z_ob a2 12 then z_bI (fX12_block fu s157 a2 x160 x162) (fun x164 s163 => if z_ob a2 12 then z_bI (fX12_thrown fu s163 a2) (fun x166 s165 => if (x166 : Int) = x158 then (if (x158 : Int) ≠ 0 then (fL_law_J859 fu L xs s165 a1 a2 a3 a4 (fun w v4 => r w v4) k) else (if z_ix a3 101 0 then z_let (s165 a3 0) (fun x167 => z_let (z_cmp x167 x164) (fun x168 => if (x168 : Int) = 0 then (fL_law_J859 fu L xs s165 a1 a2 a3 a4 (fun w v4 => r w v4) k) else (if z_bl 0 then some (vI 0, s165) else none))) else none)) else (if z_bl 0 then some (vI 0, s165) else none)) else none) else none) else none)) else none))) else none)) else none)
theorem gL_law_J794 {l : Launch} {K : z_K} (hst : l.stackTraces = false) (fu F : Nat) (s : z_M) (a1 : Int) (a2 : Int) (a3 : Int) (a4 : Int) (r : z_M → Int → z_O) (k : z_M → z_O) (hr : ∀ (s : z_M) (a4 : Int), G l K mL_law 13 295 (4 * F) (24 * F) 23 [vA K.2.2.2.2.2.1, vR a1, vR a2, vR a3, vI a4, vU, vU, vU] [] s (r s a4)) (hk : ∀ (s : z_M), G l K mL_law 13 295 0 0 2079 [vA K.2.2.2.2.2.1, vU, vU, vU, vU, vU, vU, vU] [] s (k s)) : G l K mL_law 13 295 (4 * F + 2) (24 * F + 12) 794 [vA K.2.2.2.2.2.1, vR a1, vR a2, vR a3, vI a4, vU, vU, vU] [] s (fL_law_J794 fu K.2.2.2.2.2.2.1 K.2.2.2.2.2.2.2 s a1 a2 a3 a4 r k) := by
  unfold fL_law_J794
  refine G_aload_n (x := a1) (pc := 794) dL_law_794 rfl ?_
  refine G_sload_n (pc := 795) dL_law_795 rfl ?_
  refine G_iload (x := a4) (pc := 796) dL_law_796 rfl ?_
  refine G_iconst (pc := 798) dL_law_798 ?_
  refine G_iadd (pc := 799) dL_law_799 (fun x153 => ?_)
  refine G_sald (pc := 800) dL_law_800 (fun x154 => ?_)
  refine G_sload_n (pc := 801) dL_law_801 rfl ?_
  refine G_iload (x := a4) (pc := 802) dL_law_802 rfl ?_
  refine G_iconst (pc := 804) dL_law_804 ?_
  refine G_iadd (pc := 805) dL_law_805 (fun x155 => ?_)
  refine G_sald (pc := 806) dL_law_806 (fun x156 => ?_)
  refine G_aload_n (x := a3) (pc := 807) dL_law_807 rfl ?_
  refine G_callSI (as := [vR a1, vI x154, vI x156, vR a3]) (st := []) (bc2 := (4 * F)) (bs2 := (24 * F)) (pc := 808) dL_law_808 z_mL_block z_sL_block z_wL_149 (gL_block hst fu s a1 x154 x156 a3) rfl rfl ⟨by decide, by decide, by omega, by omega, Nat.le_of_ble_eq_true rfl⟩ rfl (fun x158 s157 => ?_)
  refine G_istore (lv' := [vA K.2.2.2.2.2.1, vR a1, vR a2, vR a3, vI a4, vI x158, vU, vU]) (pc := 811) dL_law_811 rfl ?_
  refine G_aload_n (x := a2) (pc := 813) dL_law_813 rfl ?_
  refine G_sload_n (pc := 814) dL_law_814 rfl ?_
  refine G_iload (x := a4) (pc := 815) dL_law_815 rfl ?_
  refine G_iconst (pc := 817) dL_law_817 ?_
  refine G_iadd (pc := 818) dL_law_818 (fun x159 => ?_)
  refine G_sald (pc := 819) dL_law_819 (fun x160 => ?_)
  refine G_sload_n (pc := 820) dL_law_820 rfl ?_
  refine G_iload (x := a4) (pc := 821) dL_law_821 rfl ?_
  refine G_iconst (pc := 823) dL_law_823 ?_
  refine G_iadd (pc := 824) dL_law_824 (fun x161 => ?_)
  refine G_sald (pc := 825) dL_law_825 (fun x162 => ?_)
  refine G_callVI (as := [vI x160, vI x162]) (st := []) (c := 12) (bc2 := (4 * F)) (bs2 := (24 * F)) (pc := 826) dL_law_826 z_mX12_block z_vX12_block z_wL_151 (gX12_block hst fu s157 a2 x160 x162) rfl rfl (by decide) rfl rfl ⟨by decide, by decide, by omega, by omega, Nat.le_of_ble_eq_true rfl⟩ rfl (fun x164 s163 => ?_)
  refine G_istore (lv' := [vA K.2.2.2.2.2.1, vR a1, vR a2, vR a3, vI a4, vI x158, vI x164, vU]) (pc := 829) dL_law_829 rfl ?_
  refine G_aload_n (x := a2) (pc := 831) dL_law_831 rfl ?_
  refine G_callVI (as := []) (st := []) (c := 12) (bc2 := (4 * F)) (bs2 := (24 * F)) (pc := 832) dL_law_832 z_mX12_thrown z_vX12_thrown z_wL_115 (gX12_thrown hst fu s163 a2) rfl rfl (by decide) rfl rfl ⟨by decide, by decide, by omega, by omega, Nat.le_of_ble_eq_true rfl⟩ rfl (fun x166 s165 => ?_)
  refine G_iload (x := x158) (pc := 835) dL_law_835 rfl ?_
  refine G_icmp_eq (tgt := 842) (pc := 837) dL_law_837 ?_ ?_
  · refine G_iload (x := x158) (pc := 842) dL_law_842 rfl ?_
    refine G_if_ne (tgt := 859) (pc := 844) dL_law_844 ?_ ?_
    · refine G_less (bc2 := (4 * F)) (bs2 := (24 * F)) (by omega) (by omega) ?_
      refine G_fg (lv2 := [vA K.2.2.2.2.2.1, vR a1, vR a2, vR a3, vI a4, vU, vU, vU]) ⟨Or.inr rfl, Or.inr rfl, Or.inr rfl, Or.inr rfl, Or.inr rfl, Or.inl rfl, Or.inl rfl, Or.inl rfl, trivial⟩ ?_
      exact gL_law_J859 hst fu F s165 a1 a2 a3 a4 _ _ (fun w v4 => hr w v4) hk
    · refine G_aload_n (x := a3) (pc := 847) dL_law_847 rfl ?_
      refine G_iconst (pc := 848) dL_law_848 ?_
      refine G_lald (pc := 849) dL_law_849 (fun x167 => ?_)
      refine G_iload (x := x164) (pc := 850) dL_law_850 rfl ?_
      refine G_i2l (pc := 852) dL_law_852 ?_
      refine G_lcmp (pc := 853) dL_law_853 (fun x168 => ?_)
      refine G_if_eq (tgt := 859) (pc := 854) dL_law_854 ?_ ?_
      · refine G_less (bc2 := (4 * F)) (bs2 := (24 * F)) (by omega) (by omega) ?_
        refine G_fg (lv2 := [vA K.2.2.2.2.2.1, vR a1, vR a2, vR a3, vI a4, vU, vU, vU]) ⟨Or.inr rfl, Or.inr rfl, Or.inr rfl, Or.inr rfl, Or.inr rfl, Or.inl rfl, Or.inl rfl, Or.inl rfl, trivial⟩ ?_
        exact gL_law_J859 hst fu F s165 a1 a2 a3 a4 _ _ (fun w v4 => hr w v4) hk
      · refine G_iconst (pc := 857) dL_law_857 ?_
        exact G_zret (pc := 858) dL_law_858
  · refine G_iconst (pc := 840) dL_law_840 ?_
    exact G_zret (pc := 841) dL_law_841
def fL_law_J951 (fu L : Nat) (xs : Nat → Int32) (s : z_M) (a1 : Int) (a2 : Int) (a3 : Int) (a4 : Int) (r : z_M → Int → z_O) (k : z_M → z_O) : z_O := fL_law_J2073 fu L xs s a1 a2 a3 a4 (fun w v4 => r w v4) k
theorem gL_law_J951 {l : Launch} {K : z_K} (hst : l.stackTraces = false) (fu F : Nat) (s : z_M) (a1 : Int) (a2 : Int) (a3 : Int) (a4 : Int) (r : z_M → Int → z_O) (k : z_M → z_O) (hr : ∀ (s : z_M) (a4 : Int), G l K mL_law 13 295 (4 * F) (24 * F) 23 [vA K.2.2.2.2.2.1, vR a1, vR a2, vR a3, vI a4, vU, vU, vU] [] s (r s a4)) (hk : ∀ (s : z_M), G l K mL_law 13 295 0 0 2079 [vA K.2.2.2.2.2.1, vU, vU, vU, vU, vU, vU, vU] [] s (k s)) : G l K mL_law 13 295 (4 * F) (24 * F) 951 [vA K.2.2.2.2.2.1, vR a1, vR a2, vR a3, vI a4, vU, vU, vU] [] s (fL_law_J951 fu K.2.2.2.2.2.2.1 K.2.2.2.2.2.2.2 s a1 a2 a3 a4 r k) := by
  unfold fL_law_J951
  refine G_goto (tgt := 2073) (pc := 951) dL_law_951 ?_
  refine G_less (bc2 := (4 * F)) (bs2 := (24 * F)) (by omega) (by omega) ?_
  exact gL_law_J2073 hst fu F s a1 a2 a3 a4 _ _ (fun w v4 => hr w v4) hk
def fL_law_J862 (fu L : Nat) (xs : Nat → Int32) (s : z_M) (a1 : Int) (a2 : Int) (a3 : Int) (a4 : Int) (r : z_M → Int → z_O) (k : z_M → z_O) : z_O := z_let (z_w (a4 + 1)) (fun x169 => if 0 ≤ x169 ∧ x169 < (L : Int) then z_let (Int32.toInt (xs (Int.toNat x169))) (fun x170 => z_let (z_w (a4 + 2)) (fun x171 => if 0 ≤ x171 ∧ x171 < (L : Int) then z_let (Int32.toInt (xs (Int.toNat x171))) (fun x172 => z_let (z_w (a4 + 3)) (fun x173 => if 0 ≤ x173 ∧ x173 < (L : Int) then z_let (Int32.toInt (xs (Int.toNat x173))) (fun x174 => z_let (z_w (a4 + 4)) (fun x175 => if 0 ≤ x175 ∧ x175 < (L : Int) then z_let (Int32.toInt (xs (Int.toNat x175))) (fun x176 => z_bI (fL_reading fu s a1 x170 x172 x174 x176 a3) (fun x178 s177 => z_let (z_w (a4 + 1)) (fun x179 => if 0 ≤ x179 ∧ x179 < (L : Int) then z_let (Int32.toInt (xs (Int.toNat x179))) (fun x180 => z_let (z_w (a4 + 2)) (fun x181 => if 0 ≤ x181 ∧ x181 < (L : Int) then z_let (Int32.toInt (xs (Int.toNat x181))) (fun x182 => z_let (z_w (a4 + 3)) (fun x183 => if 0 ≤ x183 ∧ x183 < (L : Int) then z_let (Int32.toInt (xs (Int.toNat x183))) (fun x184 => z_let (z_w (a4 + 4)) (fun x185 => if 0 ≤ x185 ∧ x185 < (L : Int) then z_let (Int32.toInt (xs (Int.toNat x185))) (fun x186 => if z_ob a2 12 then z_bI (fX12_reading fu s177 a2 x180 x182 x184 x186) (fun x188 s187 => if z_ob a2 12 then z_bI (fX12_thrown fu s187 a2) (fun x190 s189 => if (x190 : Int) = x178 then (if (x178 : Int) ≠ 0 then (fL_law_J951 fu L xs s189 a1 a2 a3 a4 (fun w v4 => r w v4) k) else (if z_ix a3 101 0 then z_let (s189 a3 0) (fun x191 => z_let (z_cmp x191 x188) (fun x192 => if (x192 : Int) = 0 then (fL_law_J951 fu L xs s189 a1 a2 a3 a4 (fun w v4 => r w v4) k) else (if z_bl 0 then some (vI 0, s189) else none))) else none)) else (if z_bl 0 then some (vI 0, s189) else none)) else none) else none) else none)) else none)) else none)) else none))) else none)) else none)) else none)) else none)
theorem gL_law_J862 {l : Launch} {K : z_K} (hst : l.stackTraces = false) (fu F : Nat) (s : z_M) (a1 : Int) (a2 : Int) (a3 : Int) (a4 : Int) (r : z_M → Int → z_O) (k : z_M → z_O) (hr : ∀ (s : z_M) (a4 : Int), G l K mL_law 13 295 (4 * F) (24 * F) 23 [vA K.2.2.2.2.2.1, vR a1, vR a2, vR a3, vI a4, vU, vU, vU] [] s (r s a4)) (hk : ∀ (s : z_M), G l K mL_law 13 295 0 0 2079 [vA K.2.2.2.2.2.1, vU, vU, vU, vU, vU, vU, vU] [] s (k s)) : G l K mL_law 13 295 (4 * F + 4) (24 * F + 24) 862 [vA K.2.2.2.2.2.1, vR a1, vR a2, vR a3, vI a4, vU, vU, vU] [] s (fL_law_J862 fu K.2.2.2.2.2.2.1 K.2.2.2.2.2.2.2 s a1 a2 a3 a4 r k) := by
  unfold fL_law_J862
  refine G_aload_n (x := a1) (pc := 862) dL_law_862 rfl ?_
  refine G_sload_n (pc := 863) dL_law_863 rfl ?_
  refine G_iload (x := a4) (pc := 864) dL_law_864 rfl ?_
  refine G_iconst (pc := 866) dL_law_866 ?_
  refine G_iadd (pc := 867) dL_law_867 (fun x169 => ?_)
  refine G_sald (pc := 868) dL_law_868 (fun x170 => ?_)
  refine G_sload_n (pc := 869) dL_law_869 rfl ?_
  refine G_iload (x := a4) (pc := 870) dL_law_870 rfl ?_
  refine G_iconst (pc := 872) dL_law_872 ?_
  refine G_iadd (pc := 873) dL_law_873 (fun x171 => ?_)
  refine G_sald (pc := 874) dL_law_874 (fun x172 => ?_)
  refine G_sload_n (pc := 875) dL_law_875 rfl ?_
  refine G_iload (x := a4) (pc := 876) dL_law_876 rfl ?_
  refine G_iconst (pc := 878) dL_law_878 ?_
  refine G_iadd (pc := 879) dL_law_879 (fun x173 => ?_)
  refine G_sald (pc := 880) dL_law_880 (fun x174 => ?_)
  refine G_sload_n (pc := 881) dL_law_881 rfl ?_
  refine G_iload (x := a4) (pc := 882) dL_law_882 rfl ?_
  refine G_iconst (pc := 884) dL_law_884 ?_
  refine G_iadd (pc := 885) dL_law_885 (fun x175 => ?_)
  refine G_sald (pc := 886) dL_law_886 (fun x176 => ?_)
  refine G_aload_n (x := a3) (pc := 887) dL_law_887 rfl ?_
  refine G_callSI (as := [vR a1, vI x170, vI x172, vI x174, vI x176, vR a3]) (st := []) (bc2 := (4 * F)) (bs2 := (24 * F)) (pc := 888) dL_law_888 z_mL_reading z_sL_reading z_wL_152 (gL_reading hst fu s a1 x170 x172 x174 x176 a3) rfl rfl ⟨by decide, by decide, by omega, by omega, Nat.le_of_ble_eq_true rfl⟩ rfl (fun x178 s177 => ?_)
  refine G_istore (lv' := [vA K.2.2.2.2.2.1, vR a1, vR a2, vR a3, vI a4, vI x178, vU, vU]) (pc := 891) dL_law_891 rfl ?_
  refine G_aload_n (x := a2) (pc := 893) dL_law_893 rfl ?_
  refine G_sload_n (pc := 894) dL_law_894 rfl ?_
  refine G_iload (x := a4) (pc := 895) dL_law_895 rfl ?_
  refine G_iconst (pc := 897) dL_law_897 ?_
  refine G_iadd (pc := 898) dL_law_898 (fun x179 => ?_)
  refine G_sald (pc := 899) dL_law_899 (fun x180 => ?_)
  refine G_sload_n (pc := 900) dL_law_900 rfl ?_
  refine G_iload (x := a4) (pc := 901) dL_law_901 rfl ?_
  refine G_iconst (pc := 903) dL_law_903 ?_
  refine G_iadd (pc := 904) dL_law_904 (fun x181 => ?_)
  refine G_sald (pc := 905) dL_law_905 (fun x182 => ?_)
  refine G_sload_n (pc := 906) dL_law_906 rfl ?_
  refine G_iload (x := a4) (pc := 907) dL_law_907 rfl ?_
  refine G_iconst (pc := 909) dL_law_909 ?_
  refine G_iadd (pc := 910) dL_law_910 (fun x183 => ?_)
  refine G_sald (pc := 911) dL_law_911 (fun x184 => ?_)
  refine G_sload_n (pc := 912) dL_law_912 rfl ?_
  refine G_iload (x := a4) (pc := 913) dL_law_913 rfl ?_
  refine G_iconst (pc := 915) dL_law_915 ?_
  refine G_iadd (pc := 916) dL_law_916 (fun x185 => ?_)
  refine G_sald (pc := 917) dL_law_917 (fun x186 => ?_)
  refine G_callVI (as := [vI x180, vI x182, vI x184, vI x186]) (st := []) (c := 12) (bc2 := (4 * F)) (bs2 := (24 * F)) (pc := 918) dL_law_918 z_mX12_reading z_vX12_reading z_wL_155 (gX12_reading hst fu s177 a2 x180 x182 x184 x186) rfl rfl (by decide) rfl rfl ⟨by decide, by decide, by omega, by omega, Nat.le_of_ble_eq_true rfl⟩ rfl (fun x188 s187 => ?_)
  refine G_istore (lv' := [vA K.2.2.2.2.2.1, vR a1, vR a2, vR a3, vI a4, vI x178, vI x188, vU]) (pc := 921) dL_law_921 rfl ?_
  refine G_aload_n (x := a2) (pc := 923) dL_law_923 rfl ?_
  refine G_callVI (as := []) (st := []) (c := 12) (bc2 := (4 * F)) (bs2 := (24 * F)) (pc := 924) dL_law_924 z_mX12_thrown z_vX12_thrown z_wL_115 (gX12_thrown hst fu s187 a2) rfl rfl (by decide) rfl rfl ⟨by decide, by decide, by omega, by omega, Nat.le_of_ble_eq_true rfl⟩ rfl (fun x190 s189 => ?_)
  refine G_iload (x := x178) (pc := 927) dL_law_927 rfl ?_
  refine G_icmp_eq (tgt := 934) (pc := 929) dL_law_929 ?_ ?_
  · refine G_iload (x := x178) (pc := 934) dL_law_934 rfl ?_
    refine G_if_ne (tgt := 951) (pc := 936) dL_law_936 ?_ ?_
    · refine G_less (bc2 := (4 * F)) (bs2 := (24 * F)) (by omega) (by omega) ?_
      refine G_fg (lv2 := [vA K.2.2.2.2.2.1, vR a1, vR a2, vR a3, vI a4, vU, vU, vU]) ⟨Or.inr rfl, Or.inr rfl, Or.inr rfl, Or.inr rfl, Or.inr rfl, Or.inl rfl, Or.inl rfl, Or.inl rfl, trivial⟩ ?_
      exact gL_law_J951 hst fu F s189 a1 a2 a3 a4 _ _ (fun w v4 => hr w v4) hk
    · refine G_aload_n (x := a3) (pc := 939) dL_law_939 rfl ?_
      refine G_iconst (pc := 940) dL_law_940 ?_
      refine G_lald (pc := 941) dL_law_941 (fun x191 => ?_)
      refine G_iload (x := x188) (pc := 942) dL_law_942 rfl ?_
      refine G_i2l (pc := 944) dL_law_944 ?_
      refine G_lcmp (pc := 945) dL_law_945 (fun x192 => ?_)
      refine G_if_eq (tgt := 951) (pc := 946) dL_law_946 ?_ ?_
      · refine G_less (bc2 := (4 * F)) (bs2 := (24 * F)) (by omega) (by omega) ?_
        refine G_fg (lv2 := [vA K.2.2.2.2.2.1, vR a1, vR a2, vR a3, vI a4, vU, vU, vU]) ⟨Or.inr rfl, Or.inr rfl, Or.inr rfl, Or.inr rfl, Or.inr rfl, Or.inl rfl, Or.inl rfl, Or.inl rfl, trivial⟩ ?_
        exact gL_law_J951 hst fu F s189 a1 a2 a3 a4 _ _ (fun w v4 => hr w v4) hk
      · refine G_iconst (pc := 949) dL_law_949 ?_
        exact G_zret (pc := 950) dL_law_950
  · refine G_iconst (pc := 932) dL_law_932 ?_
    exact G_zret (pc := 933) dL_law_933
def fL_law_J1019 (fu L : Nat) (xs : Nat → Int32) (s : z_M) (a1 : Int) (a2 : Int) (a3 : Int) (a4 : Int) (r : z_M → Int → z_O) (k : z_M → z_O) : z_O := fL_law_J2073 fu L xs s a1 a2 a3 a4 (fun w v4 => r w v4) k
theorem gL_law_J1019 {l : Launch} {K : z_K} (hst : l.stackTraces = false) (fu F : Nat) (s : z_M) (a1 : Int) (a2 : Int) (a3 : Int) (a4 : Int) (r : z_M → Int → z_O) (k : z_M → z_O) (hr : ∀ (s : z_M) (a4 : Int), G l K mL_law 13 295 (4 * F) (24 * F) 23 [vA K.2.2.2.2.2.1, vR a1, vR a2, vR a3, vI a4, vU, vU, vU] [] s (r s a4)) (hk : ∀ (s : z_M), G l K mL_law 13 295 0 0 2079 [vA K.2.2.2.2.2.1, vU, vU, vU, vU, vU, vU, vU] [] s (k s)) : G l K mL_law 13 295 (4 * F) (24 * F) 1019 [vA K.2.2.2.2.2.1, vR a1, vR a2, vR a3, vI a4, vU, vU, vU] [] s (fL_law_J1019 fu K.2.2.2.2.2.2.1 K.2.2.2.2.2.2.2 s a1 a2 a3 a4 r k) := by
  unfold fL_law_J1019
  refine G_goto (tgt := 2073) (pc := 1019) dL_law_1019 ?_
  refine G_less (bc2 := (4 * F)) (bs2 := (24 * F)) (by omega) (by omega) ?_
  exact gL_law_J2073 hst fu F s a1 a2 a3 a4 _ _ (fun w v4 => hr w v4) hk
def fL_law_J954 (fu L : Nat) (xs : Nat → Int32) (s : z_M) (a1 : Int) (a2 : Int) (a3 : Int) (a4 : Int) (r : z_M → Int → z_O) (k : z_M → z_O) : z_O := z_let (z_w (a4 + 1)) (fun x193 => if 0 ≤ x193 ∧ x193 < (L : Int) then z_let (Int32.toInt (xs (Int.toNat x193))) (fun x194 => z_let (z_w (a4 + 2)) (fun x195 => if 0 ≤ x195 ∧ x195 < (L : Int) then z_let (Int32.toInt (xs (Int.toNat x195))) (fun x196 => z_bI (fL_run fu s a1 x194 x196 a3) (fun x198 s197 => z_let (z_w (a4 + 1)) (fun x199 => if 0 ≤ x199 ∧ x199 < (L : Int) then z_let (Int32.toInt (xs (Int.toNat x199))) (fun x200 => z_let (z_w (a4 + 2)) (fun x201 => if 0 ≤ x201 ∧ x201 < (L : Int) then z_let (Int32.toInt (xs (Int.toNat x201))) (fun x202 => if z_ob a2 12 then z_bI (fX12_run fu s197 a2 x200 x202) (fun x204 s203 => if z_ob a2 12 then z_bI (fX12_thrown fu s203 a2) (fun x206 s205 => if (x206 : Int) = x198 then (if (x198 : Int) ≠ 0 then (fL_law_J1019 fu L xs s205 a1 a2 a3 a4 (fun w v4 => r w v4) k) else (if z_ix a3 101 0 then z_let (s205 a3 0) (fun x207 => z_let (z_cmp x207 x204) (fun x208 => if (x208 : Int) = 0 then (fL_law_J1019 fu L xs s205 a1 a2 a3 a4 (fun w v4 => r w v4) k) else (if z_bl 0 then some (vI 0, s205) else none))) else none)) else (if z_bl 0 then some (vI 0, s205) else none)) else none) else none) else none)) else none))) else none)) else none)
theorem gL_law_J954 {l : Launch} {K : z_K} (hst : l.stackTraces = false) (fu F : Nat) (s : z_M) (a1 : Int) (a2 : Int) (a3 : Int) (a4 : Int) (r : z_M → Int → z_O) (k : z_M → z_O) (hr : ∀ (s : z_M) (a4 : Int), G l K mL_law 13 295 (4 * F) (24 * F) 23 [vA K.2.2.2.2.2.1, vR a1, vR a2, vR a3, vI a4, vU, vU, vU] [] s (r s a4)) (hk : ∀ (s : z_M), G l K mL_law 13 295 0 0 2079 [vA K.2.2.2.2.2.1, vU, vU, vU, vU, vU, vU, vU] [] s (k s)) : G l K mL_law 13 295 (4 * F + 1) (24 * F + 6) 954 [vA K.2.2.2.2.2.1, vR a1, vR a2, vR a3, vI a4, vU, vU, vU] [] s (fL_law_J954 fu K.2.2.2.2.2.2.1 K.2.2.2.2.2.2.2 s a1 a2 a3 a4 r k) := by
  unfold fL_law_J954
  refine G_aload_n (x := a1) (pc := 954) dL_law_954 rfl ?_
  refine G_sload_n (pc := 955) dL_law_955 rfl ?_
  refine G_iload (x := a4) (pc := 956) dL_law_956 rfl ?_
  refine G_iconst (pc := 958) dL_law_958 ?_
  refine G_iadd (pc := 959) dL_law_959 (fun x193 => ?_)
  refine G_sald (pc := 960) dL_law_960 (fun x194 => ?_)
  refine G_sload_n (pc := 961) dL_law_961 rfl ?_
  refine G_iload (x := a4) (pc := 962) dL_law_962 rfl ?_
  refine G_iconst (pc := 964) dL_law_964 ?_
  refine G_iadd (pc := 965) dL_law_965 (fun x195 => ?_)
  refine G_sald (pc := 966) dL_law_966 (fun x196 => ?_)
  refine G_aload_n (x := a3) (pc := 967) dL_law_967 rfl ?_
  refine G_callSI (as := [vR a1, vI x194, vI x196, vR a3]) (st := []) (bc2 := (4 * F)) (bs2 := (24 * F)) (pc := 968) dL_law_968 z_mL_run z_sL_run z_wL_156 (gL_run hst fu s a1 x194 x196 a3) rfl rfl ⟨by decide, by decide, by omega, by omega, Nat.le_of_ble_eq_true rfl⟩ rfl (fun x198 s197 => ?_)
  refine G_istore (lv' := [vA K.2.2.2.2.2.1, vR a1, vR a2, vR a3, vI a4, vI x198, vU, vU]) (pc := 971) dL_law_971 rfl ?_
  refine G_aload_n (x := a2) (pc := 973) dL_law_973 rfl ?_
  refine G_sload_n (pc := 974) dL_law_974 rfl ?_
  refine G_iload (x := a4) (pc := 975) dL_law_975 rfl ?_
  refine G_iconst (pc := 977) dL_law_977 ?_
  refine G_iadd (pc := 978) dL_law_978 (fun x199 => ?_)
  refine G_sald (pc := 979) dL_law_979 (fun x200 => ?_)
  refine G_sload_n (pc := 980) dL_law_980 rfl ?_
  refine G_iload (x := a4) (pc := 981) dL_law_981 rfl ?_
  refine G_iconst (pc := 983) dL_law_983 ?_
  refine G_iadd (pc := 984) dL_law_984 (fun x201 => ?_)
  refine G_sald (pc := 985) dL_law_985 (fun x202 => ?_)
  refine G_callVI (as := [vI x200, vI x202]) (st := []) (c := 12) (bc2 := (4 * F)) (bs2 := (24 * F)) (pc := 986) dL_law_986 z_mX12_run z_vX12_run z_wL_158 (gX12_run hst fu s197 a2 x200 x202) rfl rfl (by decide) rfl rfl ⟨by decide, by decide, by omega, by omega, Nat.le_of_ble_eq_true rfl⟩ rfl (fun x204 s203 => ?_)
  refine G_istore (lv' := [vA K.2.2.2.2.2.1, vR a1, vR a2, vR a3, vI a4, vI x198, vI x204, vU]) (pc := 989) dL_law_989 rfl ?_
  refine G_aload_n (x := a2) (pc := 991) dL_law_991 rfl ?_
  refine G_callVI (as := []) (st := []) (c := 12) (bc2 := (4 * F)) (bs2 := (24 * F)) (pc := 992) dL_law_992 z_mX12_thrown z_vX12_thrown z_wL_115 (gX12_thrown hst fu s203 a2) rfl rfl (by decide) rfl rfl ⟨by decide, by decide, by omega, by omega, Nat.le_of_ble_eq_true rfl⟩ rfl (fun x206 s205 => ?_)
  refine G_iload (x := x198) (pc := 995) dL_law_995 rfl ?_
  refine G_icmp_eq (tgt := 1002) (pc := 997) dL_law_997 ?_ ?_
  · refine G_iload (x := x198) (pc := 1002) dL_law_1002 rfl ?_
    refine G_if_ne (tgt := 1019) (pc := 1004) dL_law_1004 ?_ ?_
    · refine G_less (bc2 := (4 * F)) (bs2 := (24 * F)) (by omega) (by omega) ?_
      refine G_fg (lv2 := [vA K.2.2.2.2.2.1, vR a1, vR a2, vR a3, vI a4, vU, vU, vU]) ⟨Or.inr rfl, Or.inr rfl, Or.inr rfl, Or.inr rfl, Or.inr rfl, Or.inl rfl, Or.inl rfl, Or.inl rfl, trivial⟩ ?_
      exact gL_law_J1019 hst fu F s205 a1 a2 a3 a4 _ _ (fun w v4 => hr w v4) hk
    · refine G_aload_n (x := a3) (pc := 1007) dL_law_1007 rfl ?_
      refine G_iconst (pc := 1008) dL_law_1008 ?_
      refine G_lald (pc := 1009) dL_law_1009 (fun x207 => ?_)
      refine G_iload (x := x204) (pc := 1010) dL_law_1010 rfl ?_
      refine G_i2l (pc := 1012) dL_law_1012 ?_
      refine G_lcmp (pc := 1013) dL_law_1013 (fun x208 => ?_)
      refine G_if_eq (tgt := 1019) (pc := 1014) dL_law_1014 ?_ ?_
      · refine G_less (bc2 := (4 * F)) (bs2 := (24 * F)) (by omega) (by omega) ?_
        refine G_fg (lv2 := [vA K.2.2.2.2.2.1, vR a1, vR a2, vR a3, vI a4, vU, vU, vU]) ⟨Or.inr rfl, Or.inr rfl, Or.inr rfl, Or.inr rfl, Or.inr rfl, Or.inl rfl, Or.inl rfl, Or.inl rfl, trivial⟩ ?_
        exact gL_law_J1019 hst fu F s205 a1 a2 a3 a4 _ _ (fun w v4 => hr w v4) hk
      · refine G_iconst (pc := 1017) dL_law_1017 ?_
        exact G_zret (pc := 1018) dL_law_1018
  · refine G_iconst (pc := 1000) dL_law_1000 ?_
    exact G_zret (pc := 1001) dL_law_1001
def fL_law_J1087 (fu L : Nat) (xs : Nat → Int32) (s : z_M) (a1 : Int) (a2 : Int) (a3 : Int) (a4 : Int) (r : z_M → Int → z_O) (k : z_M → z_O) : z_O := fL_law_J2073 fu L xs s a1 a2 a3 a4 (fun w v4 => r w v4) k
theorem gL_law_J1087 {l : Launch} {K : z_K} (hst : l.stackTraces = false) (fu F : Nat) (s : z_M) (a1 : Int) (a2 : Int) (a3 : Int) (a4 : Int) (r : z_M → Int → z_O) (k : z_M → z_O) (hr : ∀ (s : z_M) (a4 : Int), G l K mL_law 13 295 (4 * F) (24 * F) 23 [vA K.2.2.2.2.2.1, vR a1, vR a2, vR a3, vI a4, vU, vU, vU] [] s (r s a4)) (hk : ∀ (s : z_M), G l K mL_law 13 295 0 0 2079 [vA K.2.2.2.2.2.1, vU, vU, vU, vU, vU, vU, vU] [] s (k s)) : G l K mL_law 13 295 (4 * F) (24 * F) 1087 [vA K.2.2.2.2.2.1, vR a1, vR a2, vR a3, vI a4, vU, vU, vU] [] s (fL_law_J1087 fu K.2.2.2.2.2.2.1 K.2.2.2.2.2.2.2 s a1 a2 a3 a4 r k) := by
  unfold fL_law_J1087
  refine G_goto (tgt := 2073) (pc := 1087) dL_law_1087 ?_
  refine G_less (bc2 := (4 * F)) (bs2 := (24 * F)) (by omega) (by omega) ?_
  exact gL_law_J2073 hst fu F s a1 a2 a3 a4 _ _ (fun w v4 => hr w v4) hk
def fL_law_J1022 (fu L : Nat) (xs : Nat → Int32) (s : z_M) (a1 : Int) (a2 : Int) (a3 : Int) (a4 : Int) (r : z_M → Int → z_O) (k : z_M → z_O) : z_O := z_let (z_w (a4 + 1)) (fun x209 => if 0 ≤ x209 ∧ x209 < (L : Int) then z_let (Int32.toInt (xs (Int.toNat x209))) (fun x210 => z_let (z_w (a4 + 2)) (fun x211 => if 0 ≤ x211 ∧ x211 < (L : Int) then z_let (Int32.toInt (xs (Int.toNat x211))) (fun x212 => z_bI (fL_at fu s a1 x210 x212 a3) (fun x214 s213 => z_let (z_w (a4 + 1)) (fun x215 => if 0 ≤ x215 ∧ x215 < (L : Int) then z_let (Int32.toInt (xs (Int.toNat x215))) (fun x216 => z_let (z_w (a4 + 2)) (fun x217 => if 0 ≤ x217 ∧ x217 < (L : Int) then z_let (Int32.toInt (xs (Int.toNat x217))) (fun x218 => if z_ob a2 12 then z_bI (fX12_at fu s213 a2 x216 x218) (fun x220 s219 => if z_ob a2 12 then z_bI (fX12_thrown fu s219 a2) (fun x222 s221 => if (x222 : Int) = x214 then (if (x214 : Int) ≠ 0 then (fL_law_J1087 fu L xs s221 a1 a2 a3 a4 (fun w v4 => r w v4) k) else (if z_ix a3 101 0 then z_let (s221 a3 0) (fun x223 => z_let (z_cmp x223 x220) (fun x224 => if (x224 : Int) = 0 then (fL_law_J1087 fu L xs s221 a1 a2 a3 a4 (fun w v4 => r w v4) k) else (if z_bl 0 then some (vI 0, s221) else none))) else none)) else (if z_bl 0 then some (vI 0, s221) else none)) else none) else none) else none)) else none))) else none)) else none)
theorem gL_law_J1022 {l : Launch} {K : z_K} (hst : l.stackTraces = false) (fu F : Nat) (s : z_M) (a1 : Int) (a2 : Int) (a3 : Int) (a4 : Int) (r : z_M → Int → z_O) (k : z_M → z_O) (hr : ∀ (s : z_M) (a4 : Int), G l K mL_law 13 295 (4 * F) (24 * F) 23 [vA K.2.2.2.2.2.1, vR a1, vR a2, vR a3, vI a4, vU, vU, vU] [] s (r s a4)) (hk : ∀ (s : z_M), G l K mL_law 13 295 0 0 2079 [vA K.2.2.2.2.2.1, vU, vU, vU, vU, vU, vU, vU] [] s (k s)) : G l K mL_law 13 295 (4 * F + 1) (24 * F + 6) 1022 [vA K.2.2.2.2.2.1, vR a1, vR a2, vR a3, vI a4, vU, vU, vU] [] s (fL_law_J1022 fu K.2.2.2.2.2.2.1 K.2.2.2.2.2.2.2 s a1 a2 a3 a4 r k) := by
  unfold fL_law_J1022
  refine G_aload_n (x := a1) (pc := 1022) dL_law_1022 rfl ?_
  refine G_sload_n (pc := 1023) dL_law_1023 rfl ?_
  refine G_iload (x := a4) (pc := 1024) dL_law_1024 rfl ?_
  refine G_iconst (pc := 1026) dL_law_1026 ?_
  refine G_iadd (pc := 1027) dL_law_1027 (fun x209 => ?_)
  refine G_sald (pc := 1028) dL_law_1028 (fun x210 => ?_)
  refine G_sload_n (pc := 1029) dL_law_1029 rfl ?_
  refine G_iload (x := a4) (pc := 1030) dL_law_1030 rfl ?_
  refine G_iconst (pc := 1032) dL_law_1032 ?_
  refine G_iadd (pc := 1033) dL_law_1033 (fun x211 => ?_)
  refine G_sald (pc := 1034) dL_law_1034 (fun x212 => ?_)
  refine G_aload_n (x := a3) (pc := 1035) dL_law_1035 rfl ?_
  refine G_callSI (as := [vR a1, vI x210, vI x212, vR a3]) (st := []) (bc2 := (4 * F)) (bs2 := (24 * F)) (pc := 1036) dL_law_1036 z_mL_at z_sL_at z_wL_159 (gL_at hst fu s a1 x210 x212 a3) rfl rfl ⟨by decide, by decide, by omega, by omega, Nat.le_of_ble_eq_true rfl⟩ rfl (fun x214 s213 => ?_)
  refine G_istore (lv' := [vA K.2.2.2.2.2.1, vR a1, vR a2, vR a3, vI a4, vI x214, vU, vU]) (pc := 1039) dL_law_1039 rfl ?_
  refine G_aload_n (x := a2) (pc := 1041) dL_law_1041 rfl ?_
  refine G_sload_n (pc := 1042) dL_law_1042 rfl ?_
  refine G_iload (x := a4) (pc := 1043) dL_law_1043 rfl ?_
  refine G_iconst (pc := 1045) dL_law_1045 ?_
  refine G_iadd (pc := 1046) dL_law_1046 (fun x215 => ?_)
  refine G_sald (pc := 1047) dL_law_1047 (fun x216 => ?_)
  refine G_sload_n (pc := 1048) dL_law_1048 rfl ?_
  refine G_iload (x := a4) (pc := 1049) dL_law_1049 rfl ?_
  refine G_iconst (pc := 1051) dL_law_1051 ?_
  refine G_iadd (pc := 1052) dL_law_1052 (fun x217 => ?_)
  refine G_sald (pc := 1053) dL_law_1053 (fun x218 => ?_)
  refine G_callVI (as := [vI x216, vI x218]) (st := []) (c := 12) (bc2 := (4 * F)) (bs2 := (24 * F)) (pc := 1054) dL_law_1054 z_mX12_at z_vX12_at z_wL_161 (gX12_at hst fu s213 a2 x216 x218) rfl rfl (by decide) rfl rfl ⟨by decide, by decide, by omega, by omega, Nat.le_of_ble_eq_true rfl⟩ rfl (fun x220 s219 => ?_)
  refine G_istore (lv' := [vA K.2.2.2.2.2.1, vR a1, vR a2, vR a3, vI a4, vI x214, vI x220, vU]) (pc := 1057) dL_law_1057 rfl ?_
  refine G_aload_n (x := a2) (pc := 1059) dL_law_1059 rfl ?_
  refine G_callVI (as := []) (st := []) (c := 12) (bc2 := (4 * F)) (bs2 := (24 * F)) (pc := 1060) dL_law_1060 z_mX12_thrown z_vX12_thrown z_wL_115 (gX12_thrown hst fu s219 a2) rfl rfl (by decide) rfl rfl ⟨by decide, by decide, by omega, by omega, Nat.le_of_ble_eq_true rfl⟩ rfl (fun x222 s221 => ?_)
  refine G_iload (x := x214) (pc := 1063) dL_law_1063 rfl ?_
  refine G_icmp_eq (tgt := 1070) (pc := 1065) dL_law_1065 ?_ ?_
  · refine G_iload (x := x214) (pc := 1070) dL_law_1070 rfl ?_
    refine G_if_ne (tgt := 1087) (pc := 1072) dL_law_1072 ?_ ?_
    · refine G_less (bc2 := (4 * F)) (bs2 := (24 * F)) (by omega) (by omega) ?_
      refine G_fg (lv2 := [vA K.2.2.2.2.2.1, vR a1, vR a2, vR a3, vI a4, vU, vU, vU]) ⟨Or.inr rfl, Or.inr rfl, Or.inr rfl, Or.inr rfl, Or.inr rfl, Or.inl rfl, Or.inl rfl, Or.inl rfl, trivial⟩ ?_
      exact gL_law_J1087 hst fu F s221 a1 a2 a3 a4 _ _ (fun w v4 => hr w v4) hk
    · refine G_aload_n (x := a3) (pc := 1075) dL_law_1075 rfl ?_
      refine G_iconst (pc := 1076) dL_law_1076 ?_
      refine G_lald (pc := 1077) dL_law_1077 (fun x223 => ?_)
      refine G_iload (x := x220) (pc := 1078) dL_law_1078 rfl ?_
      refine G_i2l (pc := 1080) dL_law_1080 ?_
      refine G_lcmp (pc := 1081) dL_law_1081 (fun x224 => ?_)
      refine G_if_eq (tgt := 1087) (pc := 1082) dL_law_1082 ?_ ?_
      · refine G_less (bc2 := (4 * F)) (bs2 := (24 * F)) (by omega) (by omega) ?_
        refine G_fg (lv2 := [vA K.2.2.2.2.2.1, vR a1, vR a2, vR a3, vI a4, vU, vU, vU]) ⟨Or.inr rfl, Or.inr rfl, Or.inr rfl, Or.inr rfl, Or.inr rfl, Or.inl rfl, Or.inl rfl, Or.inl rfl, trivial⟩ ?_
        exact gL_law_J1087 hst fu F s221 a1 a2 a3 a4 _ _ (fun w v4 => hr w v4) hk
      · refine G_iconst (pc := 1085) dL_law_1085 ?_
        exact G_zret (pc := 1086) dL_law_1086
  · refine G_iconst (pc := 1068) dL_law_1068 ?_
    exact G_zret (pc := 1069) dL_law_1069
def fL_law_J1150 (fu L : Nat) (xs : Nat → Int32) (s : z_M) (a1 : Int) (a2 : Int) (a3 : Int) (a4 : Int) (r : z_M → Int → z_O) (k : z_M → z_O) : z_O := fL_law_J2073 fu L xs s a1 a2 a3 a4 (fun w v4 => r w v4) k
theorem gL_law_J1150 {l : Launch} {K : z_K} (hst : l.stackTraces = false) (fu F : Nat) (s : z_M) (a1 : Int) (a2 : Int) (a3 : Int) (a4 : Int) (r : z_M → Int → z_O) (k : z_M → z_O) (hr : ∀ (s : z_M) (a4 : Int), G l K mL_law 13 295 (4 * F) (24 * F) 23 [vA K.2.2.2.2.2.1, vR a1, vR a2, vR a3, vI a4, vU, vU, vU] [] s (r s a4)) (hk : ∀ (s : z_M), G l K mL_law 13 295 0 0 2079 [vA K.2.2.2.2.2.1, vU, vU, vU, vU, vU, vU, vU] [] s (k s)) : G l K mL_law 13 295 (4 * F) (24 * F) 1150 [vA K.2.2.2.2.2.1, vR a1, vR a2, vR a3, vI a4, vU, vU, vU] [] s (fL_law_J1150 fu K.2.2.2.2.2.2.1 K.2.2.2.2.2.2.2 s a1 a2 a3 a4 r k) := by
  unfold fL_law_J1150
  refine G_goto (tgt := 2073) (pc := 1150) dL_law_1150 ?_
  refine G_less (bc2 := (4 * F)) (bs2 := (24 * F)) (by omega) (by omega) ?_
  exact gL_law_J2073 hst fu F s a1 a2 a3 a4 _ _ (fun w v4 => hr w v4) hk
def fL_law_J1144 (fu L : Nat) (xs : Nat → Int32) (s : z_M) (a1 : Int) (a2 : Int) (a3 : Int) (a4 : Int) (t0 : Int) (t1 : Int) (r : z_M → Int → z_O) (k : z_M → z_O) : z_O := z_let (z_cmp t0 t1) (fun x236 => if (x236 : Int) = 0 then (fL_law_J1150 fu L xs s a1 a2 a3 a4 (fun w v4 => r w v4) k) else (if z_bl 0 then some (vI 0, s) else none))
theorem gL_law_J1144 {l : Launch} {K : z_K} (hst : l.stackTraces = false) (fu F : Nat) (s : z_M) (a1 : Int) (a2 : Int) (a3 : Int) (a4 : Int) (t0 : Int) (t1 : Int) (r : z_M → Int → z_O) (k : z_M → z_O) (hr : ∀ (s : z_M) (a4 : Int), G l K mL_law 13 295 (4 * F) (24 * F) 23 [vA K.2.2.2.2.2.1, vR a1, vR a2, vR a3, vI a4, vU, vU, vU] [] s (r s a4)) (hk : ∀ (s : z_M), G l K mL_law 13 295 0 0 2079 [vA K.2.2.2.2.2.1, vU, vU, vU, vU, vU, vU, vU] [] s (k s)) : G l K mL_law 13 295 (4 * F) (24 * F) 1144 [vA K.2.2.2.2.2.1, vR a1, vR a2, vR a3, vI a4, vU, vU, vU] [vL t1, vL t0] s (fL_law_J1144 fu K.2.2.2.2.2.2.1 K.2.2.2.2.2.2.2 s a1 a2 a3 a4 t0 t1 r k) := by
  unfold fL_law_J1144
  refine G_lcmp (pc := 1144) dL_law_1144 (fun x236 => ?_)
  refine G_if_eq (tgt := 1150) (pc := 1145) dL_law_1145 ?_ ?_
  · refine G_less (bc2 := (4 * F)) (bs2 := (24 * F)) (by omega) (by omega) ?_
    exact gL_law_J1150 hst fu F s a1 a2 a3 a4 _ _ (fun w v4 => hr w v4) hk
  · refine G_iconst (pc := 1148) dL_law_1148 ?_
    exact G_zret (pc := 1149) dL_law_1149
def fL_law_J1090 (fu L : Nat) (xs : Nat → Int32) (s : z_M) (a1 : Int) (a2 : Int) (a3 : Int) (a4 : Int) (r : z_M → Int → z_O) (k : z_M → z_O) : z_O := z_let (z_w (a4 + 1)) (fun x225 => if 0 ≤ x225 ∧ x225 < (L : Int) then z_let (Int32.toInt (xs (Int.toNat x225))) (fun x226 => z_bI (fL_ends fu s a1 x226 a3) (fun x228 s227 => z_let (z_w (a4 + 1)) (fun x229 => if 0 ≤ x229 ∧ x229 < (L : Int) then z_let (Int32.toInt (xs (Int.toNat x229))) (fun x230 => if z_ob a2 12 then z_bI (fX12_ends fu s227 a2 x230) (fun x232 s231 => if z_ob a2 12 then z_bI (fX12_thrown fu s231 a2) (fun x234 s233 => if (x234 : Int) = x228 then (if (x228 : Int) ≠ 0 then (fL_law_J1150 fu L xs s233 a1 a2 a3 a4 (fun w v4 => r w v4) k) else (if z_ix a3 101 0 then z_let (s233 a3 0) (fun x235 => if (x232 : Int) = 0 then (fL_law_J1144 fu L xs s233 a1 a2 a3 a4 x235 0 (fun w v4 => r w v4) k) else (fL_law_J1144 fu L xs s233 a1 a2 a3 a4 x235 1 (fun w v4 => r w v4) k)) else none)) else (if z_bl 0 then some (vI 0, s233) else none)) else none) else none) else none))) else none)
theorem gL_law_J1090 {l : Launch} {K : z_K} (hst : l.stackTraces = false) (fu F : Nat) (s : z_M) (a1 : Int) (a2 : Int) (a3 : Int) (a4 : Int) (r : z_M → Int → z_O) (k : z_M → z_O) (hr : ∀ (s : z_M) (a4 : Int), G l K mL_law 13 295 (4 * F) (24 * F) 23 [vA K.2.2.2.2.2.1, vR a1, vR a2, vR a3, vI a4, vU, vU, vU] [] s (r s a4)) (hk : ∀ (s : z_M), G l K mL_law 13 295 0 0 2079 [vA K.2.2.2.2.2.1, vU, vU, vU, vU, vU, vU, vU] [] s (k s)) : G l K mL_law 13 295 (4 * F + 1) (24 * F + 6) 1090 [vA K.2.2.2.2.2.1, vR a1, vR a2, vR a3, vI a4, vU, vU, vU] [] s (fL_law_J1090 fu K.2.2.2.2.2.2.1 K.2.2.2.2.2.2.2 s a1 a2 a3 a4 r k) := by
  unfold fL_law_J1090
  refine G_aload_n (x := a1) (pc := 1090) dL_law_1090 rfl ?_
  refine G_sload_n (pc := 1091) dL_law_1091 rfl ?_
  refine G_iload (x := a4) (pc := 1092) dL_law_1092 rfl ?_
  refine G_iconst (pc := 1094) dL_law_1094 ?_
  refine G_iadd (pc := 1095) dL_law_1095 (fun x225 => ?_)
  refine G_sald (pc := 1096) dL_law_1096 (fun x226 => ?_)
  refine G_aload_n (x := a3) (pc := 1097) dL_law_1097 rfl ?_
  refine G_callSI (as := [vR a1, vI x226, vR a3]) (st := []) (bc2 := (4 * F)) (bs2 := (24 * F)) (pc := 1098) dL_law_1098 z_mL_ends z_sL_ends z_wL_162 (gL_ends hst fu s a1 x226 a3) rfl rfl ⟨by decide, by decide, by omega, by omega, Nat.le_of_ble_eq_true rfl⟩ rfl (fun x228 s227 => ?_)
  refine G_istore (lv' := [vA K.2.2.2.2.2.1, vR a1, vR a2, vR a3, vI a4, vI x228, vU, vU]) (pc := 1101) dL_law_1101 rfl ?_
  refine G_aload_n (x := a2) (pc := 1103) dL_law_1103 rfl ?_
  refine G_sload_n (pc := 1104) dL_law_1104 rfl ?_
  refine G_iload (x := a4) (pc := 1105) dL_law_1105 rfl ?_
  refine G_iconst (pc := 1107) dL_law_1107 ?_
  refine G_iadd (pc := 1108) dL_law_1108 (fun x229 => ?_)
  refine G_sald (pc := 1109) dL_law_1109 (fun x230 => ?_)
  refine G_callVI (as := [vI x230]) (st := []) (c := 12) (bc2 := (4 * F)) (bs2 := (24 * F)) (pc := 1110) dL_law_1110 z_mX12_ends z_vX12_ends z_wL_164 (gX12_ends hst fu s227 a2 x230) rfl rfl (by decide) rfl rfl ⟨by decide, by decide, by omega, by omega, Nat.le_of_ble_eq_true rfl⟩ rfl (fun x232 s231 => ?_)
  refine G_istore (lv' := [vA K.2.2.2.2.2.1, vR a1, vR a2, vR a3, vI a4, vI x228, vI x232, vU]) (pc := 1113) dL_law_1113 rfl ?_
  refine G_aload_n (x := a2) (pc := 1115) dL_law_1115 rfl ?_
  refine G_callVI (as := []) (st := []) (c := 12) (bc2 := (4 * F)) (bs2 := (24 * F)) (pc := 1116) dL_law_1116 z_mX12_thrown z_vX12_thrown z_wL_115 (gX12_thrown hst fu s231 a2) rfl rfl (by decide) rfl rfl ⟨by decide, by decide, by omega, by omega, Nat.le_of_ble_eq_true rfl⟩ rfl (fun x234 s233 => ?_)
  refine G_iload (x := x228) (pc := 1119) dL_law_1119 rfl ?_
  refine G_icmp_eq (tgt := 1126) (pc := 1121) dL_law_1121 ?_ ?_
  · refine G_iload (x := x228) (pc := 1126) dL_law_1126 rfl ?_
    refine G_if_ne (tgt := 1150) (pc := 1128) dL_law_1128 ?_ ?_
    · refine G_less (bc2 := (4 * F)) (bs2 := (24 * F)) (by omega) (by omega) ?_
      refine G_fg (lv2 := [vA K.2.2.2.2.2.1, vR a1, vR a2, vR a3, vI a4, vU, vU, vU]) ⟨Or.inr rfl, Or.inr rfl, Or.inr rfl, Or.inr rfl, Or.inr rfl, Or.inl rfl, Or.inl rfl, Or.inl rfl, trivial⟩ ?_
      exact gL_law_J1150 hst fu F s233 a1 a2 a3 a4 _ _ (fun w v4 => hr w v4) hk
    · refine G_aload_n (x := a3) (pc := 1131) dL_law_1131 rfl ?_
      refine G_iconst (pc := 1132) dL_law_1132 ?_
      refine G_lald (pc := 1133) dL_law_1133 (fun x235 => ?_)
      refine G_iload (x := x232) (pc := 1134) dL_law_1134 rfl ?_
      refine G_if_eq (tgt := 1143) (pc := 1136) dL_law_1136 ?_ ?_
      · refine G_lconst (y := 0) (pc := 1143) dL_law_1143 ?_
        refine G_less (bc2 := (4 * F)) (bs2 := (24 * F)) (by omega) (by omega) ?_
        refine G_fg (lv2 := [vA K.2.2.2.2.2.1, vR a1, vR a2, vR a3, vI a4, vU, vU, vU]) ⟨Or.inr rfl, Or.inr rfl, Or.inr rfl, Or.inr rfl, Or.inr rfl, Or.inl rfl, Or.inl rfl, Or.inl rfl, trivial⟩ ?_
        exact gL_law_J1144 hst fu F s233 a1 a2 a3 a4 x235 0 _ _ (fun w v4 => hr w v4) hk
      · refine G_lconst (y := 1) (pc := 1139) dL_law_1139 ?_
        refine G_goto (tgt := 1144) (pc := 1140) dL_law_1140 ?_
        refine G_less (bc2 := (4 * F)) (bs2 := (24 * F)) (by omega) (by omega) ?_
        refine G_fg (lv2 := [vA K.2.2.2.2.2.1, vR a1, vR a2, vR a3, vI a4, vU, vU, vU]) ⟨Or.inr rfl, Or.inr rfl, Or.inr rfl, Or.inr rfl, Or.inr rfl, Or.inl rfl, Or.inl rfl, Or.inl rfl, trivial⟩ ?_
        exact gL_law_J1144 hst fu F s233 a1 a2 a3 a4 x235 1 _ _ (fun w v4 => hr w v4) hk
  · refine G_iconst (pc := 1124) dL_law_1124 ?_
    exact G_zret (pc := 1125) dL_law_1125
def fL_law_J1218 (fu L : Nat) (xs : Nat → Int32) (s : z_M) (a1 : Int) (a2 : Int) (a3 : Int) (a4 : Int) (r : z_M → Int → z_O) (k : z_M → z_O) : z_O := fL_law_J2073 fu L xs s a1 a2 a3 a4 (fun w v4 => r w v4) k
theorem gL_law_J1218 {l : Launch} {K : z_K} (hst : l.stackTraces = false) (fu F : Nat) (s : z_M) (a1 : Int) (a2 : Int) (a3 : Int) (a4 : Int) (r : z_M → Int → z_O) (k : z_M → z_O) (hr : ∀ (s : z_M) (a4 : Int), G l K mL_law 13 295 (4 * F) (24 * F) 23 [vA K.2.2.2.2.2.1, vR a1, vR a2, vR a3, vI a4, vU, vU, vU] [] s (r s a4)) (hk : ∀ (s : z_M), G l K mL_law 13 295 0 0 2079 [vA K.2.2.2.2.2.1, vU, vU, vU, vU, vU, vU, vU] [] s (k s)) : G l K mL_law 13 295 (4 * F) (24 * F) 1218 [vA K.2.2.2.2.2.1, vR a1, vR a2, vR a3, vI a4, vU, vU, vU] [] s (fL_law_J1218 fu K.2.2.2.2.2.2.1 K.2.2.2.2.2.2.2 s a1 a2 a3 a4 r k) := by
  unfold fL_law_J1218
  refine G_goto (tgt := 2073) (pc := 1218) dL_law_1218 ?_
  refine G_less (bc2 := (4 * F)) (bs2 := (24 * F)) (by omega) (by omega) ?_
  exact gL_law_J2073 hst fu F s a1 a2 a3 a4 _ _ (fun w v4 => hr w v4) hk
def fL_law_J1153 (fu L : Nat) (xs : Nat → Int32) (s : z_M) (a1 : Int) (a2 : Int) (a3 : Int) (a4 : Int) (r : z_M → Int → z_O) (k : z_M → z_O) : z_O := z_let (z_w (a4 + 1)) (fun x237 => if 0 ≤ x237 ∧ x237 < (L : Int) then z_let (Int32.toInt (xs (Int.toNat x237))) (fun x238 => z_let (z_w (a4 + 2)) (fun x239 => if 0 ≤ x239 ∧ x239 < (L : Int) then z_let (Int32.toInt (xs (Int.toNat x239))) (fun x240 => z_bI (fL_longOf fu s a1 x238 x240 a3) (fun x242 s241 => z_let (z_w (a4 + 1)) (fun x243 => if 0 ≤ x243 ∧ x243 < (L : Int) then z_let (Int32.toInt (xs (Int.toNat x243))) (fun x244 => z_let (z_w (a4 + 2)) (fun x245 => if 0 ≤ x245 ∧ x245 < (L : Int) then z_let (Int32.toInt (xs (Int.toNat x245))) (fun x246 => if z_ob a2 12 then z_bI (fX12_longOf fu s241 a2 x244 x246) (fun x248 s247 => if z_ob a2 12 then z_bI (fX12_thrown fu s247 a2) (fun x250 s249 => if (x250 : Int) = x242 then (if (x242 : Int) ≠ 0 then (fL_law_J1218 fu L xs s249 a1 a2 a3 a4 (fun w v4 => r w v4) k) else (if z_ix a3 101 0 then z_let (s249 a3 0) (fun x251 => z_let (z_cmp x251 x248) (fun x252 => if (x252 : Int) = 0 then (fL_law_J1218 fu L xs s249 a1 a2 a3 a4 (fun w v4 => r w v4) k) else (if z_bl 0 then some (vI 0, s249) else none))) else none)) else (if z_bl 0 then some (vI 0, s249) else none)) else none) else none) else none)) else none))) else none)) else none)
theorem gL_law_J1153 {l : Launch} {K : z_K} (hst : l.stackTraces = false) (fu F : Nat) (s : z_M) (a1 : Int) (a2 : Int) (a3 : Int) (a4 : Int) (r : z_M → Int → z_O) (k : z_M → z_O) (hr : ∀ (s : z_M) (a4 : Int), G l K mL_law 13 295 (4 * F) (24 * F) 23 [vA K.2.2.2.2.2.1, vR a1, vR a2, vR a3, vI a4, vU, vU, vU] [] s (r s a4)) (hk : ∀ (s : z_M), G l K mL_law 13 295 0 0 2079 [vA K.2.2.2.2.2.1, vU, vU, vU, vU, vU, vU, vU] [] s (k s)) : G l K mL_law 13 295 (4 * F + 3) (24 * F + 18) 1153 [vA K.2.2.2.2.2.1, vR a1, vR a2, vR a3, vI a4, vU, vU, vU] [] s (fL_law_J1153 fu K.2.2.2.2.2.2.1 K.2.2.2.2.2.2.2 s a1 a2 a3 a4 r k) := by
  unfold fL_law_J1153
  refine G_aload_n (x := a1) (pc := 1153) dL_law_1153 rfl ?_
  refine G_sload_n (pc := 1154) dL_law_1154 rfl ?_
  refine G_iload (x := a4) (pc := 1155) dL_law_1155 rfl ?_
  refine G_iconst (pc := 1157) dL_law_1157 ?_
  refine G_iadd (pc := 1158) dL_law_1158 (fun x237 => ?_)
  refine G_sald (pc := 1159) dL_law_1159 (fun x238 => ?_)
  refine G_sload_n (pc := 1160) dL_law_1160 rfl ?_
  refine G_iload (x := a4) (pc := 1161) dL_law_1161 rfl ?_
  refine G_iconst (pc := 1163) dL_law_1163 ?_
  refine G_iadd (pc := 1164) dL_law_1164 (fun x239 => ?_)
  refine G_sald (pc := 1165) dL_law_1165 (fun x240 => ?_)
  refine G_aload_n (x := a3) (pc := 1166) dL_law_1166 rfl ?_
  refine G_callSI (as := [vR a1, vI x238, vI x240, vR a3]) (st := []) (bc2 := (4 * F)) (bs2 := (24 * F)) (pc := 1167) dL_law_1167 z_mL_longOf z_sL_longOf z_wL_165 (gL_longOf hst fu s a1 x238 x240 a3) rfl rfl ⟨by decide, by decide, by omega, by omega, Nat.le_of_ble_eq_true rfl⟩ rfl (fun x242 s241 => ?_)
  refine G_istore (lv' := [vA K.2.2.2.2.2.1, vR a1, vR a2, vR a3, vI a4, vI x242, vU, vU]) (pc := 1170) dL_law_1170 rfl ?_
  refine G_aload_n (x := a2) (pc := 1172) dL_law_1172 rfl ?_
  refine G_sload_n (pc := 1173) dL_law_1173 rfl ?_
  refine G_iload (x := a4) (pc := 1174) dL_law_1174 rfl ?_
  refine G_iconst (pc := 1176) dL_law_1176 ?_
  refine G_iadd (pc := 1177) dL_law_1177 (fun x243 => ?_)
  refine G_sald (pc := 1178) dL_law_1178 (fun x244 => ?_)
  refine G_sload_n (pc := 1179) dL_law_1179 rfl ?_
  refine G_iload (x := a4) (pc := 1180) dL_law_1180 rfl ?_
  refine G_iconst (pc := 1182) dL_law_1182 ?_
  refine G_iadd (pc := 1183) dL_law_1183 (fun x245 => ?_)
  refine G_sald (pc := 1184) dL_law_1184 (fun x246 => ?_)
  refine G_callVI (as := [vI x244, vI x246]) (st := []) (c := 12) (bc2 := (4 * F)) (bs2 := (24 * F)) (pc := 1185) dL_law_1185 z_mX12_longOf z_vX12_longOf z_wL_167 (gX12_longOf hst fu s241 a2 x244 x246) rfl rfl (by decide) rfl rfl ⟨by decide, by decide, by omega, by omega, Nat.le_of_ble_eq_true rfl⟩ rfl (fun x248 s247 => ?_)
  refine G_istore (lv' := [vA K.2.2.2.2.2.1, vR a1, vR a2, vR a3, vI a4, vI x242, vI x248, vU]) (pc := 1188) dL_law_1188 rfl ?_
  refine G_aload_n (x := a2) (pc := 1190) dL_law_1190 rfl ?_
  refine G_callVI (as := []) (st := []) (c := 12) (bc2 := (4 * F)) (bs2 := (24 * F)) (pc := 1191) dL_law_1191 z_mX12_thrown z_vX12_thrown z_wL_115 (gX12_thrown hst fu s247 a2) rfl rfl (by decide) rfl rfl ⟨by decide, by decide, by omega, by omega, Nat.le_of_ble_eq_true rfl⟩ rfl (fun x250 s249 => ?_)
  refine G_iload (x := x242) (pc := 1194) dL_law_1194 rfl ?_
  refine G_icmp_eq (tgt := 1201) (pc := 1196) dL_law_1196 ?_ ?_
  · refine G_iload (x := x242) (pc := 1201) dL_law_1201 rfl ?_
    refine G_if_ne (tgt := 1218) (pc := 1203) dL_law_1203 ?_ ?_
    · refine G_less (bc2 := (4 * F)) (bs2 := (24 * F)) (by omega) (by omega) ?_
      refine G_fg (lv2 := [vA K.2.2.2.2.2.1, vR a1, vR a2, vR a3, vI a4, vU, vU, vU]) ⟨Or.inr rfl, Or.inr rfl, Or.inr rfl, Or.inr rfl, Or.inr rfl, Or.inl rfl, Or.inl rfl, Or.inl rfl, trivial⟩ ?_
      exact gL_law_J1218 hst fu F s249 a1 a2 a3 a4 _ _ (fun w v4 => hr w v4) hk
    · refine G_aload_n (x := a3) (pc := 1206) dL_law_1206 rfl ?_
      refine G_iconst (pc := 1207) dL_law_1207 ?_
      refine G_lald (pc := 1208) dL_law_1208 (fun x251 => ?_)
      refine G_iload (x := x248) (pc := 1209) dL_law_1209 rfl ?_
      refine G_i2l (pc := 1211) dL_law_1211 ?_
      refine G_lcmp (pc := 1212) dL_law_1212 (fun x252 => ?_)
      refine G_if_eq (tgt := 1218) (pc := 1213) dL_law_1213 ?_ ?_
      · refine G_less (bc2 := (4 * F)) (bs2 := (24 * F)) (by omega) (by omega) ?_
        refine G_fg (lv2 := [vA K.2.2.2.2.2.1, vR a1, vR a2, vR a3, vI a4, vU, vU, vU]) ⟨Or.inr rfl, Or.inr rfl, Or.inr rfl, Or.inr rfl, Or.inr rfl, Or.inl rfl, Or.inl rfl, Or.inl rfl, trivial⟩ ?_
        exact gL_law_J1218 hst fu F s249 a1 a2 a3 a4 _ _ (fun w v4 => hr w v4) hk
      · refine G_iconst (pc := 1216) dL_law_1216 ?_
        exact G_zret (pc := 1217) dL_law_1217
  · refine G_iconst (pc := 1199) dL_law_1199 ?_
    exact G_zret (pc := 1200) dL_law_1200
def fL_law_J1286 (fu L : Nat) (xs : Nat → Int32) (s : z_M) (a1 : Int) (a2 : Int) (a3 : Int) (a4 : Int) (r : z_M → Int → z_O) (k : z_M → z_O) : z_O := fL_law_J2073 fu L xs s a1 a2 a3 a4 (fun w v4 => r w v4) k
theorem gL_law_J1286 {l : Launch} {K : z_K} (hst : l.stackTraces = false) (fu F : Nat) (s : z_M) (a1 : Int) (a2 : Int) (a3 : Int) (a4 : Int) (r : z_M → Int → z_O) (k : z_M → z_O) (hr : ∀ (s : z_M) (a4 : Int), G l K mL_law 13 295 (4 * F) (24 * F) 23 [vA K.2.2.2.2.2.1, vR a1, vR a2, vR a3, vI a4, vU, vU, vU] [] s (r s a4)) (hk : ∀ (s : z_M), G l K mL_law 13 295 0 0 2079 [vA K.2.2.2.2.2.1, vU, vU, vU, vU, vU, vU, vU] [] s (k s)) : G l K mL_law 13 295 (4 * F) (24 * F) 1286 [vA K.2.2.2.2.2.1, vR a1, vR a2, vR a3, vI a4, vU, vU, vU] [] s (fL_law_J1286 fu K.2.2.2.2.2.2.1 K.2.2.2.2.2.2.2 s a1 a2 a3 a4 r k) := by
  unfold fL_law_J1286
  refine G_goto (tgt := 2073) (pc := 1286) dL_law_1286 ?_
  refine G_less (bc2 := (4 * F)) (bs2 := (24 * F)) (by omega) (by omega) ?_
  exact gL_law_J2073 hst fu F s a1 a2 a3 a4 _ _ (fun w v4 => hr w v4) hk
def fL_law_J1221 (fu L : Nat) (xs : Nat → Int32) (s : z_M) (a1 : Int) (a2 : Int) (a3 : Int) (a4 : Int) (r : z_M → Int → z_O) (k : z_M → z_O) : z_O := z_let (z_w (a4 + 1)) (fun x253 => if 0 ≤ x253 ∧ x253 < (L : Int) then z_let (Int32.toInt (xs (Int.toNat x253))) (fun x254 => z_let (z_w (a4 + 2)) (fun x255 => if 0 ≤ x255 ∧ x255 < (L : Int) then z_let (Int32.toInt (xs (Int.toNat x255))) (fun x256 => z_bI (fL_lines fu s a1 x254 x256 a3) (fun x258 s257 => z_let (z_w (a4 + 1)) (fun x259 => if 0 ≤ x259 ∧ x259 < (L : Int) then z_let (Int32.toInt (xs (Int.toNat x259))) (fun x260 => z_let (z_w (a4 + 2)) (fun x261 => if 0 ≤ x261 ∧ x261 < (L : Int) then z_let (Int32.toInt (xs (Int.toNat x261))) (fun x262 => if z_ob a2 12 then z_bI (fX12_lines fu s257 a2 x260 x262) (fun x264 s263 => if z_ob a2 12 then z_bI (fX12_thrown fu s263 a2) (fun x266 s265 => if (x266 : Int) = x258 then (if (x258 : Int) ≠ 0 then (fL_law_J1286 fu L xs s265 a1 a2 a3 a4 (fun w v4 => r w v4) k) else (if z_ix a3 101 0 then z_let (s265 a3 0) (fun x267 => z_let (z_cmp x267 x264) (fun x268 => if (x268 : Int) = 0 then (fL_law_J1286 fu L xs s265 a1 a2 a3 a4 (fun w v4 => r w v4) k) else (if z_bl 0 then some (vI 0, s265) else none))) else none)) else (if z_bl 0 then some (vI 0, s265) else none)) else none) else none) else none)) else none))) else none)) else none)
theorem gL_law_J1221 {l : Launch} {K : z_K} (hst : l.stackTraces = false) (fu F : Nat) (s : z_M) (a1 : Int) (a2 : Int) (a3 : Int) (a4 : Int) (r : z_M → Int → z_O) (k : z_M → z_O) (hr : ∀ (s : z_M) (a4 : Int), G l K mL_law 13 295 (4 * F) (24 * F) 23 [vA K.2.2.2.2.2.1, vR a1, vR a2, vR a3, vI a4, vU, vU, vU] [] s (r s a4)) (hk : ∀ (s : z_M), G l K mL_law 13 295 0 0 2079 [vA K.2.2.2.2.2.1, vU, vU, vU, vU, vU, vU, vU] [] s (k s)) : G l K mL_law 13 295 (4 * F + 2) (24 * F + 12) 1221 [vA K.2.2.2.2.2.1, vR a1, vR a2, vR a3, vI a4, vU, vU, vU] [] s (fL_law_J1221 fu K.2.2.2.2.2.2.1 K.2.2.2.2.2.2.2 s a1 a2 a3 a4 r k) := by
  unfold fL_law_J1221
  refine G_aload_n (x := a1) (pc := 1221) dL_law_1221 rfl ?_
  refine G_sload_n (pc := 1222) dL_law_1222 rfl ?_
  refine G_iload (x := a4) (pc := 1223) dL_law_1223 rfl ?_
  refine G_iconst (pc := 1225) dL_law_1225 ?_
  refine G_iadd (pc := 1226) dL_law_1226 (fun x253 => ?_)
  refine G_sald (pc := 1227) dL_law_1227 (fun x254 => ?_)
  refine G_sload_n (pc := 1228) dL_law_1228 rfl ?_
  refine G_iload (x := a4) (pc := 1229) dL_law_1229 rfl ?_
  refine G_iconst (pc := 1231) dL_law_1231 ?_
  refine G_iadd (pc := 1232) dL_law_1232 (fun x255 => ?_)
  refine G_sald (pc := 1233) dL_law_1233 (fun x256 => ?_)
  refine G_aload_n (x := a3) (pc := 1234) dL_law_1234 rfl ?_
  refine G_callSI (as := [vR a1, vI x254, vI x256, vR a3]) (st := []) (bc2 := (4 * F)) (bs2 := (24 * F)) (pc := 1235) dL_law_1235 z_mL_lines z_sL_lines z_wL_168 (gL_lines hst fu s a1 x254 x256 a3) rfl rfl ⟨by decide, by decide, by omega, by omega, Nat.le_of_ble_eq_true rfl⟩ rfl (fun x258 s257 => ?_)
  refine G_istore (lv' := [vA K.2.2.2.2.2.1, vR a1, vR a2, vR a3, vI a4, vI x258, vU, vU]) (pc := 1238) dL_law_1238 rfl ?_
  refine G_aload_n (x := a2) (pc := 1240) dL_law_1240 rfl ?_
  refine G_sload_n (pc := 1241) dL_law_1241 rfl ?_
  refine G_iload (x := a4) (pc := 1242) dL_law_1242 rfl ?_
  refine G_iconst (pc := 1244) dL_law_1244 ?_
  refine G_iadd (pc := 1245) dL_law_1245 (fun x259 => ?_)
  refine G_sald (pc := 1246) dL_law_1246 (fun x260 => ?_)
  refine G_sload_n (pc := 1247) dL_law_1247 rfl ?_
  refine G_iload (x := a4) (pc := 1248) dL_law_1248 rfl ?_
  refine G_iconst (pc := 1250) dL_law_1250 ?_
  refine G_iadd (pc := 1251) dL_law_1251 (fun x261 => ?_)
  refine G_sald (pc := 1252) dL_law_1252 (fun x262 => ?_)
  refine G_callVI (as := [vI x260, vI x262]) (st := []) (c := 12) (bc2 := (4 * F)) (bs2 := (24 * F)) (pc := 1253) dL_law_1253 z_mX12_lines z_vX12_lines z_wL_170 (gX12_lines hst fu s257 a2 x260 x262) rfl rfl (by decide) rfl rfl ⟨by decide, by decide, by omega, by omega, Nat.le_of_ble_eq_true rfl⟩ rfl (fun x264 s263 => ?_)
  refine G_istore (lv' := [vA K.2.2.2.2.2.1, vR a1, vR a2, vR a3, vI a4, vI x258, vI x264, vU]) (pc := 1256) dL_law_1256 rfl ?_
  refine G_aload_n (x := a2) (pc := 1258) dL_law_1258 rfl ?_
  refine G_callVI (as := []) (st := []) (c := 12) (bc2 := (4 * F)) (bs2 := (24 * F)) (pc := 1259) dL_law_1259 z_mX12_thrown z_vX12_thrown z_wL_115 (gX12_thrown hst fu s263 a2) rfl rfl (by decide) rfl rfl ⟨by decide, by decide, by omega, by omega, Nat.le_of_ble_eq_true rfl⟩ rfl (fun x266 s265 => ?_)
  refine G_iload (x := x258) (pc := 1262) dL_law_1262 rfl ?_
  refine G_icmp_eq (tgt := 1269) (pc := 1264) dL_law_1264 ?_ ?_
  · refine G_iload (x := x258) (pc := 1269) dL_law_1269 rfl ?_
    refine G_if_ne (tgt := 1286) (pc := 1271) dL_law_1271 ?_ ?_
    · refine G_less (bc2 := (4 * F)) (bs2 := (24 * F)) (by omega) (by omega) ?_
      refine G_fg (lv2 := [vA K.2.2.2.2.2.1, vR a1, vR a2, vR a3, vI a4, vU, vU, vU]) ⟨Or.inr rfl, Or.inr rfl, Or.inr rfl, Or.inr rfl, Or.inr rfl, Or.inl rfl, Or.inl rfl, Or.inl rfl, trivial⟩ ?_
      exact gL_law_J1286 hst fu F s265 a1 a2 a3 a4 _ _ (fun w v4 => hr w v4) hk
    · refine G_aload_n (x := a3) (pc := 1274) dL_law_1274 rfl ?_
      refine G_iconst (pc := 1275) dL_law_1275 ?_
      refine G_lald (pc := 1276) dL_law_1276 (fun x267 => ?_)
      refine G_iload (x := x264) (pc := 1277) dL_law_1277 rfl ?_
      refine G_i2l (pc := 1279) dL_law_1279 ?_
      refine G_lcmp (pc := 1280) dL_law_1280 (fun x268 => ?_)
      refine G_if_eq (tgt := 1286) (pc := 1281) dL_law_1281 ?_ ?_
      · refine G_less (bc2 := (4 * F)) (bs2 := (24 * F)) (by omega) (by omega) ?_
        refine G_fg (lv2 := [vA K.2.2.2.2.2.1, vR a1, vR a2, vR a3, vI a4, vU, vU, vU]) ⟨Or.inr rfl, Or.inr rfl, Or.inr rfl, Or.inr rfl, Or.inr rfl, Or.inl rfl, Or.inl rfl, Or.inl rfl, trivial⟩ ?_
        exact gL_law_J1286 hst fu F s265 a1 a2 a3 a4 _ _ (fun w v4 => hr w v4) hk
      · refine G_iconst (pc := 1284) dL_law_1284 ?_
        exact G_zret (pc := 1285) dL_law_1285
  · refine G_iconst (pc := 1267) dL_law_1267 ?_
    exact G_zret (pc := 1268) dL_law_1268
def fL_law_J1342 (fu L : Nat) (xs : Nat → Int32) (s : z_M) (a1 : Int) (a2 : Int) (a3 : Int) (a4 : Int) (r : z_M → Int → z_O) (k : z_M → z_O) : z_O := fL_law_J2073 fu L xs s a1 a2 a3 a4 (fun w v4 => r w v4) k
theorem gL_law_J1342 {l : Launch} {K : z_K} (hst : l.stackTraces = false) (fu F : Nat) (s : z_M) (a1 : Int) (a2 : Int) (a3 : Int) (a4 : Int) (r : z_M → Int → z_O) (k : z_M → z_O) (hr : ∀ (s : z_M) (a4 : Int), G l K mL_law 13 295 (4 * F) (24 * F) 23 [vA K.2.2.2.2.2.1, vR a1, vR a2, vR a3, vI a4, vU, vU, vU] [] s (r s a4)) (hk : ∀ (s : z_M), G l K mL_law 13 295 0 0 2079 [vA K.2.2.2.2.2.1, vU, vU, vU, vU, vU, vU, vU] [] s (k s)) : G l K mL_law 13 295 (4 * F) (24 * F) 1342 [vA K.2.2.2.2.2.1, vR a1, vR a2, vR a3, vI a4, vU, vU, vU] [] s (fL_law_J1342 fu K.2.2.2.2.2.2.1 K.2.2.2.2.2.2.2 s a1 a2 a3 a4 r k) := by
  unfold fL_law_J1342
  refine G_goto (tgt := 2073) (pc := 1342) dL_law_1342 ?_
  refine G_less (bc2 := (4 * F)) (bs2 := (24 * F)) (by omega) (by omega) ?_
  exact gL_law_J2073 hst fu F s a1 a2 a3 a4 _ _ (fun w v4 => hr w v4) hk
def fL_law_J1289 (fu L : Nat) (xs : Nat → Int32) (s : z_M) (a1 : Int) (a2 : Int) (a3 : Int) (a4 : Int) (r : z_M → Int → z_O) (k : z_M → z_O) : z_O := z_let (z_w (a4 + 1)) (fun x269 => if 0 ≤ x269 ∧ x269 < (L : Int) then z_let (Int32.toInt (xs (Int.toNat x269))) (fun x270 => z_bI (fL_least fu s a1 x270 a3) (fun x272 s271 => z_let (z_w (a4 + 1)) (fun x273 => if 0 ≤ x273 ∧ x273 < (L : Int) then z_let (Int32.toInt (xs (Int.toNat x273))) (fun x274 => if z_ob a2 12 then z_bI (fX12_least fu s271 a2 x274) (fun x276 s275 => if z_ob a2 12 then z_bI (fX12_thrown fu s275 a2) (fun x278 s277 => if (x278 : Int) = x272 then (if (x272 : Int) ≠ 0 then (fL_law_J1342 fu L xs s277 a1 a2 a3 a4 (fun w v4 => r w v4) k) else (if z_ix a3 101 0 then z_let (s277 a3 0) (fun x279 => z_let (z_cmp x279 x276) (fun x280 => if (x280 : Int) = 0 then (fL_law_J1342 fu L xs s277 a1 a2 a3 a4 (fun w v4 => r w v4) k) else (if z_bl 0 then some (vI 0, s277) else none))) else none)) else (if z_bl 0 then some (vI 0, s277) else none)) else none) else none) else none))) else none)
theorem gL_law_J1289 {l : Launch} {K : z_K} (hst : l.stackTraces = false) (fu F : Nat) (s : z_M) (a1 : Int) (a2 : Int) (a3 : Int) (a4 : Int) (r : z_M → Int → z_O) (k : z_M → z_O) (hr : ∀ (s : z_M) (a4 : Int), G l K mL_law 13 295 (4 * F) (24 * F) 23 [vA K.2.2.2.2.2.1, vR a1, vR a2, vR a3, vI a4, vU, vU, vU] [] s (r s a4)) (hk : ∀ (s : z_M), G l K mL_law 13 295 0 0 2079 [vA K.2.2.2.2.2.1, vU, vU, vU, vU, vU, vU, vU] [] s (k s)) : G l K mL_law 13 295 (4 * F + 1) (24 * F + 6) 1289 [vA K.2.2.2.2.2.1, vR a1, vR a2, vR a3, vI a4, vU, vU, vU] [] s (fL_law_J1289 fu K.2.2.2.2.2.2.1 K.2.2.2.2.2.2.2 s a1 a2 a3 a4 r k) := by
  unfold fL_law_J1289
  refine G_aload_n (x := a1) (pc := 1289) dL_law_1289 rfl ?_
  refine G_sload_n (pc := 1290) dL_law_1290 rfl ?_
  refine G_iload (x := a4) (pc := 1291) dL_law_1291 rfl ?_
  refine G_iconst (pc := 1293) dL_law_1293 ?_
  refine G_iadd (pc := 1294) dL_law_1294 (fun x269 => ?_)
  refine G_sald (pc := 1295) dL_law_1295 (fun x270 => ?_)
  refine G_aload_n (x := a3) (pc := 1296) dL_law_1296 rfl ?_
  refine G_callSI (as := [vR a1, vI x270, vR a3]) (st := []) (bc2 := (4 * F)) (bs2 := (24 * F)) (pc := 1297) dL_law_1297 z_mL_least z_sL_least z_wL_171 (gL_least hst fu s a1 x270 a3) rfl rfl ⟨by decide, by decide, by omega, by omega, Nat.le_of_ble_eq_true rfl⟩ rfl (fun x272 s271 => ?_)
  refine G_istore (lv' := [vA K.2.2.2.2.2.1, vR a1, vR a2, vR a3, vI a4, vI x272, vU, vU]) (pc := 1300) dL_law_1300 rfl ?_
  refine G_aload_n (x := a2) (pc := 1302) dL_law_1302 rfl ?_
  refine G_sload_n (pc := 1303) dL_law_1303 rfl ?_
  refine G_iload (x := a4) (pc := 1304) dL_law_1304 rfl ?_
  refine G_iconst (pc := 1306) dL_law_1306 ?_
  refine G_iadd (pc := 1307) dL_law_1307 (fun x273 => ?_)
  refine G_sald (pc := 1308) dL_law_1308 (fun x274 => ?_)
  refine G_callVI (as := [vI x274]) (st := []) (c := 12) (bc2 := (4 * F)) (bs2 := (24 * F)) (pc := 1309) dL_law_1309 z_mX12_least z_vX12_least z_wL_173 (gX12_least hst fu s271 a2 x274) rfl rfl (by decide) rfl rfl ⟨by decide, by decide, by omega, by omega, Nat.le_of_ble_eq_true rfl⟩ rfl (fun x276 s275 => ?_)
  refine G_istore (lv' := [vA K.2.2.2.2.2.1, vR a1, vR a2, vR a3, vI a4, vI x272, vI x276, vU]) (pc := 1312) dL_law_1312 rfl ?_
  refine G_aload_n (x := a2) (pc := 1314) dL_law_1314 rfl ?_
  refine G_callVI (as := []) (st := []) (c := 12) (bc2 := (4 * F)) (bs2 := (24 * F)) (pc := 1315) dL_law_1315 z_mX12_thrown z_vX12_thrown z_wL_115 (gX12_thrown hst fu s275 a2) rfl rfl (by decide) rfl rfl ⟨by decide, by decide, by omega, by omega, Nat.le_of_ble_eq_true rfl⟩ rfl (fun x278 s277 => ?_)
  refine G_iload (x := x272) (pc := 1318) dL_law_1318 rfl ?_
  refine G_icmp_eq (tgt := 1325) (pc := 1320) dL_law_1320 ?_ ?_
  · refine G_iload (x := x272) (pc := 1325) dL_law_1325 rfl ?_
    refine G_if_ne (tgt := 1342) (pc := 1327) dL_law_1327 ?_ ?_
    · refine G_less (bc2 := (4 * F)) (bs2 := (24 * F)) (by omega) (by omega) ?_
      refine G_fg (lv2 := [vA K.2.2.2.2.2.1, vR a1, vR a2, vR a3, vI a4, vU, vU, vU]) ⟨Or.inr rfl, Or.inr rfl, Or.inr rfl, Or.inr rfl, Or.inr rfl, Or.inl rfl, Or.inl rfl, Or.inl rfl, trivial⟩ ?_
      exact gL_law_J1342 hst fu F s277 a1 a2 a3 a4 _ _ (fun w v4 => hr w v4) hk
    · refine G_aload_n (x := a3) (pc := 1330) dL_law_1330 rfl ?_
      refine G_iconst (pc := 1331) dL_law_1331 ?_
      refine G_lald (pc := 1332) dL_law_1332 (fun x279 => ?_)
      refine G_iload (x := x276) (pc := 1333) dL_law_1333 rfl ?_
      refine G_i2l (pc := 1335) dL_law_1335 ?_
      refine G_lcmp (pc := 1336) dL_law_1336 (fun x280 => ?_)
      refine G_if_eq (tgt := 1342) (pc := 1337) dL_law_1337 ?_ ?_
      · refine G_less (bc2 := (4 * F)) (bs2 := (24 * F)) (by omega) (by omega) ?_
        refine G_fg (lv2 := [vA K.2.2.2.2.2.1, vR a1, vR a2, vR a3, vI a4, vU, vU, vU]) ⟨Or.inr rfl, Or.inr rfl, Or.inr rfl, Or.inr rfl, Or.inr rfl, Or.inl rfl, Or.inl rfl, Or.inl rfl, trivial⟩ ?_
        exact gL_law_J1342 hst fu F s277 a1 a2 a3 a4 _ _ (fun w v4 => hr w v4) hk
      · refine G_iconst (pc := 1340) dL_law_1340 ?_
        exact G_zret (pc := 1341) dL_law_1341
  · refine G_iconst (pc := 1323) dL_law_1323 ?_
    exact G_zret (pc := 1324) dL_law_1324
def fL_law_J1345 (fu L : Nat) (xs : Nat → Int32) (s : z_M) (a1 : Int) (a2 : Int) (a3 : Int) (a4 : Int) (r : z_M → Int → z_O) (k : z_M → z_O) : z_O := if z_ob a1 11 then z_bL (fX11_better fu s a1) (fun x282 s281 => if z_ob a2 12 then z_bL (fX12_better fu s281 a2) (fun x284 s283 => z_let (z_cmp x282 x284) (fun x285 => if (x285 : Int) = 0 then (fL_law_J2073 fu L xs s283 a1 a2 a3 a4 (fun w v4 => r w v4) k) else (if z_bl 0 then some (vI 0, s283) else none))) else none) else none
theorem gL_law_J1345 {l : Launch} {K : z_K} (hst : l.stackTraces = false) (fu F : Nat) (s : z_M) (a1 : Int) (a2 : Int) (a3 : Int) (a4 : Int) (r : z_M → Int → z_O) (k : z_M → z_O) (hr : ∀ (s : z_M) (a4 : Int), G l K mL_law 13 295 (4 * F) (24 * F) 23 [vA K.2.2.2.2.2.1, vR a1, vR a2, vR a3, vI a4, vU, vU, vU] [] s (r s a4)) (hk : ∀ (s : z_M), G l K mL_law 13 295 0 0 2079 [vA K.2.2.2.2.2.1, vU, vU, vU, vU, vU, vU, vU] [] s (k s)) : G l K mL_law 13 295 (4 * F) (24 * F) 1345 [vA K.2.2.2.2.2.1, vR a1, vR a2, vR a3, vI a4, vU, vU, vU] [] s (fL_law_J1345 fu K.2.2.2.2.2.2.1 K.2.2.2.2.2.2.2 s a1 a2 a3 a4 r k) := by
  unfold fL_law_J1345
  refine G_aload_n (x := a1) (pc := 1345) dL_law_1345 rfl ?_
  refine G_callVL (as := []) (st := []) (c := 11) (bc2 := (4 * F)) (bs2 := (24 * F)) (pc := 1346) dL_law_1346 z_mX11_better z_vX11_better z_wL_174 (gX11_better hst fu s a1) rfl rfl (by decide) rfl rfl ⟨by decide, by decide, by omega, by omega, Nat.le_of_ble_eq_true rfl⟩ rfl (fun x282 s281 => ?_)
  refine G_aload_n (x := a2) (pc := 1349) dL_law_1349 rfl ?_
  refine G_callVL (as := []) (st := [vL x282]) (c := 12) (bc2 := (4 * F)) (bs2 := (24 * F)) (pc := 1350) dL_law_1350 z_mX12_better z_vX12_better z_wL_178 (gX12_better hst fu s281 a2) rfl rfl (by decide) rfl rfl ⟨by decide, by decide, by omega, by omega, Nat.le_of_ble_eq_true rfl⟩ rfl (fun x284 s283 => ?_)
  refine G_lcmp (pc := 1353) dL_law_1353 (fun x285 => ?_)
  refine G_if_eq (tgt := 2073) (pc := 1354) dL_law_1354 ?_ ?_
  · refine G_less (bc2 := (4 * F)) (bs2 := (24 * F)) (by omega) (by omega) ?_
    exact gL_law_J2073 hst fu F s283 a1 a2 a3 a4 _ _ (fun w v4 => hr w v4) hk
  · refine G_iconst (pc := 1357) dL_law_1357 ?_
    exact G_zret (pc := 1358) dL_law_1358
def fL_law_J1412 (fu L : Nat) (xs : Nat → Int32) (s : z_M) (a1 : Int) (a2 : Int) (a3 : Int) (a4 : Int) (r : z_M → Int → z_O) (k : z_M → z_O) : z_O := fL_law_J2073 fu L xs s a1 a2 a3 a4 (fun w v4 => r w v4) k
theorem gL_law_J1412 {l : Launch} {K : z_K} (hst : l.stackTraces = false) (fu F : Nat) (s : z_M) (a1 : Int) (a2 : Int) (a3 : Int) (a4 : Int) (r : z_M → Int → z_O) (k : z_M → z_O) (hr : ∀ (s : z_M) (a4 : Int), G l K mL_law 13 295 (4 * F) (24 * F) 23 [vA K.2.2.2.2.2.1, vR a1, vR a2, vR a3, vI a4, vU, vU, vU] [] s (r s a4)) (hk : ∀ (s : z_M), G l K mL_law 13 295 0 0 2079 [vA K.2.2.2.2.2.1, vU, vU, vU, vU, vU, vU, vU] [] s (k s)) : G l K mL_law 13 295 (4 * F) (24 * F) 1412 [vA K.2.2.2.2.2.1, vR a1, vR a2, vR a3, vI a4, vU, vU, vU] [] s (fL_law_J1412 fu K.2.2.2.2.2.2.1 K.2.2.2.2.2.2.2 s a1 a2 a3 a4 r k) := by
  unfold fL_law_J1412
  refine G_goto (tgt := 2073) (pc := 1412) dL_law_1412 ?_
  refine G_less (bc2 := (4 * F)) (bs2 := (24 * F)) (by omega) (by omega) ?_
  exact gL_law_J2073 hst fu F s a1 a2 a3 a4 _ _ (fun w v4 => hr w v4) hk
def fL_law_J1359 (fu L : Nat) (xs : Nat → Int32) (s : z_M) (a1 : Int) (a2 : Int) (a3 : Int) (a4 : Int) (r : z_M → Int → z_O) (k : z_M → z_O) : z_O := z_let (z_w (a4 + 1)) (fun x286 => if 0 ≤ x286 ∧ x286 < (L : Int) then z_let (Int32.toInt (xs (Int.toNat x286))) (fun x287 => z_bI (fL_marks fu s a1 x287 a3) (fun x289 s288 => z_let (z_w (a4 + 1)) (fun x290 => if 0 ≤ x290 ∧ x290 < (L : Int) then z_let (Int32.toInt (xs (Int.toNat x290))) (fun x291 => if z_ob a2 12 then z_bI (fX12_marks fu s288 a2 x291) (fun x293 s292 => if z_ob a2 12 then z_bI (fX12_thrown fu s292 a2) (fun x295 s294 => if (x295 : Int) = x289 then (if (x289 : Int) ≠ 0 then (fL_law_J1412 fu L xs s294 a1 a2 a3 a4 (fun w v4 => r w v4) k) else (if z_ix a3 101 0 then z_let (s294 a3 0) (fun x296 => z_let (z_cmp x296 x293) (fun x297 => if (x297 : Int) = 0 then (fL_law_J1412 fu L xs s294 a1 a2 a3 a4 (fun w v4 => r w v4) k) else (if z_bl 0 then some (vI 0, s294) else none))) else none)) else (if z_bl 0 then some (vI 0, s294) else none)) else none) else none) else none))) else none)
theorem gL_law_J1359 {l : Launch} {K : z_K} (hst : l.stackTraces = false) (fu F : Nat) (s : z_M) (a1 : Int) (a2 : Int) (a3 : Int) (a4 : Int) (r : z_M → Int → z_O) (k : z_M → z_O) (hr : ∀ (s : z_M) (a4 : Int), G l K mL_law 13 295 (4 * F) (24 * F) 23 [vA K.2.2.2.2.2.1, vR a1, vR a2, vR a3, vI a4, vU, vU, vU] [] s (r s a4)) (hk : ∀ (s : z_M), G l K mL_law 13 295 0 0 2079 [vA K.2.2.2.2.2.1, vU, vU, vU, vU, vU, vU, vU] [] s (k s)) : G l K mL_law 13 295 (4 * F + 1) (24 * F + 6) 1359 [vA K.2.2.2.2.2.1, vR a1, vR a2, vR a3, vI a4, vU, vU, vU] [] s (fL_law_J1359 fu K.2.2.2.2.2.2.1 K.2.2.2.2.2.2.2 s a1 a2 a3 a4 r k) := by
  unfold fL_law_J1359
  refine G_aload_n (x := a1) (pc := 1359) dL_law_1359 rfl ?_
  refine G_sload_n (pc := 1360) dL_law_1360 rfl ?_
  refine G_iload (x := a4) (pc := 1361) dL_law_1361 rfl ?_
  refine G_iconst (pc := 1363) dL_law_1363 ?_
  refine G_iadd (pc := 1364) dL_law_1364 (fun x286 => ?_)
  refine G_sald (pc := 1365) dL_law_1365 (fun x287 => ?_)
  refine G_aload_n (x := a3) (pc := 1366) dL_law_1366 rfl ?_
  refine G_callSI (as := [vR a1, vI x287, vR a3]) (st := []) (bc2 := (4 * F)) (bs2 := (24 * F)) (pc := 1367) dL_law_1367 z_mL_marks z_sL_marks z_wL_179 (gL_marks hst fu s a1 x287 a3) rfl rfl ⟨by decide, by decide, by omega, by omega, Nat.le_of_ble_eq_true rfl⟩ rfl (fun x289 s288 => ?_)
  refine G_istore (lv' := [vA K.2.2.2.2.2.1, vR a1, vR a2, vR a3, vI a4, vI x289, vU, vU]) (pc := 1370) dL_law_1370 rfl ?_
  refine G_aload_n (x := a2) (pc := 1372) dL_law_1372 rfl ?_
  refine G_sload_n (pc := 1373) dL_law_1373 rfl ?_
  refine G_iload (x := a4) (pc := 1374) dL_law_1374 rfl ?_
  refine G_iconst (pc := 1376) dL_law_1376 ?_
  refine G_iadd (pc := 1377) dL_law_1377 (fun x290 => ?_)
  refine G_sald (pc := 1378) dL_law_1378 (fun x291 => ?_)
  refine G_callVI (as := [vI x291]) (st := []) (c := 12) (bc2 := (4 * F)) (bs2 := (24 * F)) (pc := 1379) dL_law_1379 z_mX12_marks z_vX12_marks z_wL_181 (gX12_marks hst fu s288 a2 x291) rfl rfl (by decide) rfl rfl ⟨by decide, by decide, by omega, by omega, Nat.le_of_ble_eq_true rfl⟩ rfl (fun x293 s292 => ?_)
  refine G_istore (lv' := [vA K.2.2.2.2.2.1, vR a1, vR a2, vR a3, vI a4, vI x289, vI x293, vU]) (pc := 1382) dL_law_1382 rfl ?_
  refine G_aload_n (x := a2) (pc := 1384) dL_law_1384 rfl ?_
  refine G_callVI (as := []) (st := []) (c := 12) (bc2 := (4 * F)) (bs2 := (24 * F)) (pc := 1385) dL_law_1385 z_mX12_thrown z_vX12_thrown z_wL_115 (gX12_thrown hst fu s292 a2) rfl rfl (by decide) rfl rfl ⟨by decide, by decide, by omega, by omega, Nat.le_of_ble_eq_true rfl⟩ rfl (fun x295 s294 => ?_)
  refine G_iload (x := x289) (pc := 1388) dL_law_1388 rfl ?_
  refine G_icmp_eq (tgt := 1395) (pc := 1390) dL_law_1390 ?_ ?_
  · refine G_iload (x := x289) (pc := 1395) dL_law_1395 rfl ?_
    refine G_if_ne (tgt := 1412) (pc := 1397) dL_law_1397 ?_ ?_
    · refine G_less (bc2 := (4 * F)) (bs2 := (24 * F)) (by omega) (by omega) ?_
      refine G_fg (lv2 := [vA K.2.2.2.2.2.1, vR a1, vR a2, vR a3, vI a4, vU, vU, vU]) ⟨Or.inr rfl, Or.inr rfl, Or.inr rfl, Or.inr rfl, Or.inr rfl, Or.inl rfl, Or.inl rfl, Or.inl rfl, trivial⟩ ?_
      exact gL_law_J1412 hst fu F s294 a1 a2 a3 a4 _ _ (fun w v4 => hr w v4) hk
    · refine G_aload_n (x := a3) (pc := 1400) dL_law_1400 rfl ?_
      refine G_iconst (pc := 1401) dL_law_1401 ?_
      refine G_lald (pc := 1402) dL_law_1402 (fun x296 => ?_)
      refine G_iload (x := x293) (pc := 1403) dL_law_1403 rfl ?_
      refine G_i2l (pc := 1405) dL_law_1405 ?_
      refine G_lcmp (pc := 1406) dL_law_1406 (fun x297 => ?_)
      refine G_if_eq (tgt := 1412) (pc := 1407) dL_law_1407 ?_ ?_
      · refine G_less (bc2 := (4 * F)) (bs2 := (24 * F)) (by omega) (by omega) ?_
        refine G_fg (lv2 := [vA K.2.2.2.2.2.1, vR a1, vR a2, vR a3, vI a4, vU, vU, vU]) ⟨Or.inr rfl, Or.inr rfl, Or.inr rfl, Or.inr rfl, Or.inr rfl, Or.inl rfl, Or.inl rfl, Or.inl rfl, trivial⟩ ?_
        exact gL_law_J1412 hst fu F s294 a1 a2 a3 a4 _ _ (fun w v4 => hr w v4) hk
      · refine G_iconst (pc := 1410) dL_law_1410 ?_
        exact G_zret (pc := 1411) dL_law_1411
  · refine G_iconst (pc := 1393) dL_law_1393 ?_
    exact G_zret (pc := 1394) dL_law_1394
def fL_law_J1415 (fu L : Nat) (xs : Nat → Int32) (s : z_M) (a1 : Int) (a2 : Int) (a3 : Int) (a4 : Int) (r : z_M → Int → z_O) (k : z_M → z_O) : z_O := if z_ob a1 11 then z_bI (fX11_moves fu s a1) (fun x299 s298 => if z_ob a2 12 then z_bI (fX12_moves fu s298 a2) (fun x301 s300 => if (x299 : Int) = x301 then (fL_law_J2073 fu L xs s300 a1 a2 a3 a4 (fun w v4 => r w v4) k) else (if z_bl 0 then some (vI 0, s300) else none)) else none) else none
theorem gL_law_J1415 {l : Launch} {K : z_K} (hst : l.stackTraces = false) (fu F : Nat) (s : z_M) (a1 : Int) (a2 : Int) (a3 : Int) (a4 : Int) (r : z_M → Int → z_O) (k : z_M → z_O) (hr : ∀ (s : z_M) (a4 : Int), G l K mL_law 13 295 (4 * F) (24 * F) 23 [vA K.2.2.2.2.2.1, vR a1, vR a2, vR a3, vI a4, vU, vU, vU] [] s (r s a4)) (hk : ∀ (s : z_M), G l K mL_law 13 295 0 0 2079 [vA K.2.2.2.2.2.1, vU, vU, vU, vU, vU, vU, vU] [] s (k s)) : G l K mL_law 13 295 (4 * F) (24 * F) 1415 [vA K.2.2.2.2.2.1, vR a1, vR a2, vR a3, vI a4, vU, vU, vU] [] s (fL_law_J1415 fu K.2.2.2.2.2.2.1 K.2.2.2.2.2.2.2 s a1 a2 a3 a4 r k) := by
  unfold fL_law_J1415
  refine G_aload_n (x := a1) (pc := 1415) dL_law_1415 rfl ?_
  refine G_callVI (as := []) (st := []) (c := 11) (bc2 := (4 * F)) (bs2 := (24 * F)) (pc := 1416) dL_law_1416 z_mX11_moves z_vX11_moves z_wL_182 (gX11_moves hst fu s a1) rfl rfl (by decide) rfl rfl ⟨by decide, by decide, by omega, by omega, Nat.le_of_ble_eq_true rfl⟩ rfl (fun x299 s298 => ?_)
  refine G_aload_n (x := a2) (pc := 1419) dL_law_1419 rfl ?_
  refine G_callVI (as := []) (st := [vI x299]) (c := 12) (bc2 := (4 * F)) (bs2 := (24 * F)) (pc := 1420) dL_law_1420 z_mX12_moves z_vX12_moves z_wL_185 (gX12_moves hst fu s298 a2) rfl rfl (by decide) rfl rfl ⟨by decide, by decide, by omega, by omega, Nat.le_of_ble_eq_true rfl⟩ rfl (fun x301 s300 => ?_)
  refine G_icmp_eq (tgt := 2073) (pc := 1423) dL_law_1423 ?_ ?_
  · refine G_less (bc2 := (4 * F)) (bs2 := (24 * F)) (by omega) (by omega) ?_
    exact gL_law_J2073 hst fu F s300 a1 a2 a3 a4 _ _ (fun w v4 => hr w v4) hk
  · refine G_iconst (pc := 1426) dL_law_1426 ?_
    exact G_zret (pc := 1427) dL_law_1427
def fL_law_J1481 (fu L : Nat) (xs : Nat → Int32) (s : z_M) (a1 : Int) (a2 : Int) (a3 : Int) (a4 : Int) (r : z_M → Int → z_O) (k : z_M → z_O) : z_O := fL_law_J2073 fu L xs s a1 a2 a3 a4 (fun w v4 => r w v4) k
theorem gL_law_J1481 {l : Launch} {K : z_K} (hst : l.stackTraces = false) (fu F : Nat) (s : z_M) (a1 : Int) (a2 : Int) (a3 : Int) (a4 : Int) (r : z_M → Int → z_O) (k : z_M → z_O) (hr : ∀ (s : z_M) (a4 : Int), G l K mL_law 13 295 (4 * F) (24 * F) 23 [vA K.2.2.2.2.2.1, vR a1, vR a2, vR a3, vI a4, vU, vU, vU] [] s (r s a4)) (hk : ∀ (s : z_M), G l K mL_law 13 295 0 0 2079 [vA K.2.2.2.2.2.1, vU, vU, vU, vU, vU, vU, vU] [] s (k s)) : G l K mL_law 13 295 (4 * F) (24 * F) 1481 [vA K.2.2.2.2.2.1, vR a1, vR a2, vR a3, vI a4, vU, vU, vU] [] s (fL_law_J1481 fu K.2.2.2.2.2.2.1 K.2.2.2.2.2.2.2 s a1 a2 a3 a4 r k) := by
  unfold fL_law_J1481
  refine G_goto (tgt := 2073) (pc := 1481) dL_law_1481 ?_
  refine G_less (bc2 := (4 * F)) (bs2 := (24 * F)) (by omega) (by omega) ?_
  exact gL_law_J2073 hst fu F s a1 a2 a3 a4 _ _ (fun w v4 => hr w v4) hk
def fL_law_J1428 (fu L : Nat) (xs : Nat → Int32) (s : z_M) (a1 : Int) (a2 : Int) (a3 : Int) (a4 : Int) (r : z_M → Int → z_O) (k : z_M → z_O) : z_O := z_let (z_w (a4 + 1)) (fun x302 => if 0 ≤ x302 ∧ x302 < (L : Int) then z_let (Int32.toInt (xs (Int.toNat x302))) (fun x303 => z_bI (fL_lend fu s a1 x303 a3) (fun x305 s304 => z_let (z_w (a4 + 1)) (fun x306 => if 0 ≤ x306 ∧ x306 < (L : Int) then z_let (Int32.toInt (xs (Int.toNat x306))) (fun x307 => if z_ob a2 12 then z_bI (fX12_lend fu s304 a2 x307) (fun x309 s308 => if z_ob a2 12 then z_bI (fX12_thrown fu s308 a2) (fun x311 s310 => if (x311 : Int) = x305 then (if (x305 : Int) ≠ 0 then (fL_law_J1481 fu L xs s310 a1 a2 a3 a4 (fun w v4 => r w v4) k) else (if z_ix a3 101 0 then z_let (s310 a3 0) (fun x312 => z_let (z_cmp x312 x309) (fun x313 => if (x313 : Int) = 0 then (fL_law_J1481 fu L xs s310 a1 a2 a3 a4 (fun w v4 => r w v4) k) else (if z_bl 0 then some (vI 0, s310) else none))) else none)) else (if z_bl 0 then some (vI 0, s310) else none)) else none) else none) else none))) else none)
theorem gL_law_J1428 {l : Launch} {K : z_K} (hst : l.stackTraces = false) (fu F : Nat) (s : z_M) (a1 : Int) (a2 : Int) (a3 : Int) (a4 : Int) (r : z_M → Int → z_O) (k : z_M → z_O) (hr : ∀ (s : z_M) (a4 : Int), G l K mL_law 13 295 (4 * F) (24 * F) 23 [vA K.2.2.2.2.2.1, vR a1, vR a2, vR a3, vI a4, vU, vU, vU] [] s (r s a4)) (hk : ∀ (s : z_M), G l K mL_law 13 295 0 0 2079 [vA K.2.2.2.2.2.1, vU, vU, vU, vU, vU, vU, vU] [] s (k s)) : G l K mL_law 13 295 (4 * F + 1) (24 * F + 6) 1428 [vA K.2.2.2.2.2.1, vR a1, vR a2, vR a3, vI a4, vU, vU, vU] [] s (fL_law_J1428 fu K.2.2.2.2.2.2.1 K.2.2.2.2.2.2.2 s a1 a2 a3 a4 r k) := by
  unfold fL_law_J1428
  refine G_aload_n (x := a1) (pc := 1428) dL_law_1428 rfl ?_
  refine G_sload_n (pc := 1429) dL_law_1429 rfl ?_
  refine G_iload (x := a4) (pc := 1430) dL_law_1430 rfl ?_
  refine G_iconst (pc := 1432) dL_law_1432 ?_
  refine G_iadd (pc := 1433) dL_law_1433 (fun x302 => ?_)
  refine G_sald (pc := 1434) dL_law_1434 (fun x303 => ?_)
  refine G_aload_n (x := a3) (pc := 1435) dL_law_1435 rfl ?_
  refine G_callSI (as := [vR a1, vI x303, vR a3]) (st := []) (bc2 := (4 * F)) (bs2 := (24 * F)) (pc := 1436) dL_law_1436 z_mL_lend z_sL_lend z_wL_186 (gL_lend hst fu s a1 x303 a3) rfl rfl ⟨by decide, by decide, by omega, by omega, Nat.le_of_ble_eq_true rfl⟩ rfl (fun x305 s304 => ?_)
  refine G_istore (lv' := [vA K.2.2.2.2.2.1, vR a1, vR a2, vR a3, vI a4, vI x305, vU, vU]) (pc := 1439) dL_law_1439 rfl ?_
  refine G_aload_n (x := a2) (pc := 1441) dL_law_1441 rfl ?_
  refine G_sload_n (pc := 1442) dL_law_1442 rfl ?_
  refine G_iload (x := a4) (pc := 1443) dL_law_1443 rfl ?_
  refine G_iconst (pc := 1445) dL_law_1445 ?_
  refine G_iadd (pc := 1446) dL_law_1446 (fun x306 => ?_)
  refine G_sald (pc := 1447) dL_law_1447 (fun x307 => ?_)
  refine G_callVI (as := [vI x307]) (st := []) (c := 12) (bc2 := (4 * F)) (bs2 := (24 * F)) (pc := 1448) dL_law_1448 z_mX12_lend z_vX12_lend z_wL_188 (gX12_lend hst fu s304 a2 x307) rfl rfl (by decide) rfl rfl ⟨by decide, by decide, by omega, by omega, Nat.le_of_ble_eq_true rfl⟩ rfl (fun x309 s308 => ?_)
  refine G_istore (lv' := [vA K.2.2.2.2.2.1, vR a1, vR a2, vR a3, vI a4, vI x305, vI x309, vU]) (pc := 1451) dL_law_1451 rfl ?_
  refine G_aload_n (x := a2) (pc := 1453) dL_law_1453 rfl ?_
  refine G_callVI (as := []) (st := []) (c := 12) (bc2 := (4 * F)) (bs2 := (24 * F)) (pc := 1454) dL_law_1454 z_mX12_thrown z_vX12_thrown z_wL_115 (gX12_thrown hst fu s308 a2) rfl rfl (by decide) rfl rfl ⟨by decide, by decide, by omega, by omega, Nat.le_of_ble_eq_true rfl⟩ rfl (fun x311 s310 => ?_)
  refine G_iload (x := x305) (pc := 1457) dL_law_1457 rfl ?_
  refine G_icmp_eq (tgt := 1464) (pc := 1459) dL_law_1459 ?_ ?_
  · refine G_iload (x := x305) (pc := 1464) dL_law_1464 rfl ?_
    refine G_if_ne (tgt := 1481) (pc := 1466) dL_law_1466 ?_ ?_
    · refine G_less (bc2 := (4 * F)) (bs2 := (24 * F)) (by omega) (by omega) ?_
      refine G_fg (lv2 := [vA K.2.2.2.2.2.1, vR a1, vR a2, vR a3, vI a4, vU, vU, vU]) ⟨Or.inr rfl, Or.inr rfl, Or.inr rfl, Or.inr rfl, Or.inr rfl, Or.inl rfl, Or.inl rfl, Or.inl rfl, trivial⟩ ?_
      exact gL_law_J1481 hst fu F s310 a1 a2 a3 a4 _ _ (fun w v4 => hr w v4) hk
    · refine G_aload_n (x := a3) (pc := 1469) dL_law_1469 rfl ?_
      refine G_iconst (pc := 1470) dL_law_1470 ?_
      refine G_lald (pc := 1471) dL_law_1471 (fun x312 => ?_)
      refine G_iload (x := x309) (pc := 1472) dL_law_1472 rfl ?_
      refine G_i2l (pc := 1474) dL_law_1474 ?_
      refine G_lcmp (pc := 1475) dL_law_1475 (fun x313 => ?_)
      refine G_if_eq (tgt := 1481) (pc := 1476) dL_law_1476 ?_ ?_
      · refine G_less (bc2 := (4 * F)) (bs2 := (24 * F)) (by omega) (by omega) ?_
        refine G_fg (lv2 := [vA K.2.2.2.2.2.1, vR a1, vR a2, vR a3, vI a4, vU, vU, vU]) ⟨Or.inr rfl, Or.inr rfl, Or.inr rfl, Or.inr rfl, Or.inr rfl, Or.inl rfl, Or.inl rfl, Or.inl rfl, trivial⟩ ?_
        exact gL_law_J1481 hst fu F s310 a1 a2 a3 a4 _ _ (fun w v4 => hr w v4) hk
      · refine G_iconst (pc := 1479) dL_law_1479 ?_
        exact G_zret (pc := 1480) dL_law_1480
  · refine G_iconst (pc := 1462) dL_law_1462 ?_
    exact G_zret (pc := 1463) dL_law_1463
def fL_law_J1537 (fu L : Nat) (xs : Nat → Int32) (s : z_M) (a1 : Int) (a2 : Int) (a3 : Int) (a4 : Int) (r : z_M → Int → z_O) (k : z_M → z_O) : z_O := fL_law_J2073 fu L xs s a1 a2 a3 a4 (fun w v4 => r w v4) k
theorem gL_law_J1537 {l : Launch} {K : z_K} (hst : l.stackTraces = false) (fu F : Nat) (s : z_M) (a1 : Int) (a2 : Int) (a3 : Int) (a4 : Int) (r : z_M → Int → z_O) (k : z_M → z_O) (hr : ∀ (s : z_M) (a4 : Int), G l K mL_law 13 295 (4 * F) (24 * F) 23 [vA K.2.2.2.2.2.1, vR a1, vR a2, vR a3, vI a4, vU, vU, vU] [] s (r s a4)) (hk : ∀ (s : z_M), G l K mL_law 13 295 0 0 2079 [vA K.2.2.2.2.2.1, vU, vU, vU, vU, vU, vU, vU] [] s (k s)) : G l K mL_law 13 295 (4 * F) (24 * F) 1537 [vA K.2.2.2.2.2.1, vR a1, vR a2, vR a3, vI a4, vU, vU, vU] [] s (fL_law_J1537 fu K.2.2.2.2.2.2.1 K.2.2.2.2.2.2.2 s a1 a2 a3 a4 r k) := by
  unfold fL_law_J1537
  refine G_goto (tgt := 2073) (pc := 1537) dL_law_1537 ?_
  refine G_less (bc2 := (4 * F)) (bs2 := (24 * F)) (by omega) (by omega) ?_
  exact gL_law_J2073 hst fu F s a1 a2 a3 a4 _ _ (fun w v4 => hr w v4) hk
def fL_law_J1484 (fu L : Nat) (xs : Nat → Int32) (s : z_M) (a1 : Int) (a2 : Int) (a3 : Int) (a4 : Int) (r : z_M → Int → z_O) (k : z_M → z_O) : z_O := z_let (z_w (a4 + 1)) (fun x314 => if 0 ≤ x314 ∧ x314 < (L : Int) then z_let (Int32.toInt (xs (Int.toNat x314))) (fun x315 => z_bI (fL_nearest fu s a1 x315 a3) (fun x317 s316 => z_let (z_w (a4 + 1)) (fun x318 => if 0 ≤ x318 ∧ x318 < (L : Int) then z_let (Int32.toInt (xs (Int.toNat x318))) (fun x319 => if z_ob a2 12 then z_bI (fX12_nearest fu s316 a2 x319) (fun x321 s320 => if z_ob a2 12 then z_bI (fX12_thrown fu s320 a2) (fun x323 s322 => if (x323 : Int) = x317 then (if (x317 : Int) ≠ 0 then (fL_law_J1537 fu L xs s322 a1 a2 a3 a4 (fun w v4 => r w v4) k) else (if z_ix a3 101 0 then z_let (s322 a3 0) (fun x324 => z_let (z_cmp x324 x321) (fun x325 => if (x325 : Int) = 0 then (fL_law_J1537 fu L xs s322 a1 a2 a3 a4 (fun w v4 => r w v4) k) else (if z_bl 0 then some (vI 0, s322) else none))) else none)) else (if z_bl 0 then some (vI 0, s322) else none)) else none) else none) else none))) else none)
theorem gL_law_J1484 {l : Launch} {K : z_K} (hst : l.stackTraces = false) (fu F : Nat) (s : z_M) (a1 : Int) (a2 : Int) (a3 : Int) (a4 : Int) (r : z_M → Int → z_O) (k : z_M → z_O) (hr : ∀ (s : z_M) (a4 : Int), G l K mL_law 13 295 (4 * F) (24 * F) 23 [vA K.2.2.2.2.2.1, vR a1, vR a2, vR a3, vI a4, vU, vU, vU] [] s (r s a4)) (hk : ∀ (s : z_M), G l K mL_law 13 295 0 0 2079 [vA K.2.2.2.2.2.1, vU, vU, vU, vU, vU, vU, vU] [] s (k s)) : G l K mL_law 13 295 (4 * F + 1) (24 * F + 6) 1484 [vA K.2.2.2.2.2.1, vR a1, vR a2, vR a3, vI a4, vU, vU, vU] [] s (fL_law_J1484 fu K.2.2.2.2.2.2.1 K.2.2.2.2.2.2.2 s a1 a2 a3 a4 r k) := by
  unfold fL_law_J1484
  refine G_aload_n (x := a1) (pc := 1484) dL_law_1484 rfl ?_
  refine G_sload_n (pc := 1485) dL_law_1485 rfl ?_
  refine G_iload (x := a4) (pc := 1486) dL_law_1486 rfl ?_
  refine G_iconst (pc := 1488) dL_law_1488 ?_
  refine G_iadd (pc := 1489) dL_law_1489 (fun x314 => ?_)
  refine G_sald (pc := 1490) dL_law_1490 (fun x315 => ?_)
  refine G_aload_n (x := a3) (pc := 1491) dL_law_1491 rfl ?_
  refine G_callSI (as := [vR a1, vI x315, vR a3]) (st := []) (bc2 := (4 * F)) (bs2 := (24 * F)) (pc := 1492) dL_law_1492 z_mL_nearest z_sL_nearest z_wL_189 (gL_nearest hst fu s a1 x315 a3) rfl rfl ⟨by decide, by decide, by omega, by omega, Nat.le_of_ble_eq_true rfl⟩ rfl (fun x317 s316 => ?_)
  refine G_istore (lv' := [vA K.2.2.2.2.2.1, vR a1, vR a2, vR a3, vI a4, vI x317, vU, vU]) (pc := 1495) dL_law_1495 rfl ?_
  refine G_aload_n (x := a2) (pc := 1497) dL_law_1497 rfl ?_
  refine G_sload_n (pc := 1498) dL_law_1498 rfl ?_
  refine G_iload (x := a4) (pc := 1499) dL_law_1499 rfl ?_
  refine G_iconst (pc := 1501) dL_law_1501 ?_
  refine G_iadd (pc := 1502) dL_law_1502 (fun x318 => ?_)
  refine G_sald (pc := 1503) dL_law_1503 (fun x319 => ?_)
  refine G_callVI (as := [vI x319]) (st := []) (c := 12) (bc2 := (4 * F)) (bs2 := (24 * F)) (pc := 1504) dL_law_1504 z_mX12_nearest z_vX12_nearest z_wL_191 (gX12_nearest hst fu s316 a2 x319) rfl rfl (by decide) rfl rfl ⟨by decide, by decide, by omega, by omega, Nat.le_of_ble_eq_true rfl⟩ rfl (fun x321 s320 => ?_)
  refine G_istore (lv' := [vA K.2.2.2.2.2.1, vR a1, vR a2, vR a3, vI a4, vI x317, vI x321, vU]) (pc := 1507) dL_law_1507 rfl ?_
  refine G_aload_n (x := a2) (pc := 1509) dL_law_1509 rfl ?_
  refine G_callVI (as := []) (st := []) (c := 12) (bc2 := (4 * F)) (bs2 := (24 * F)) (pc := 1510) dL_law_1510 z_mX12_thrown z_vX12_thrown z_wL_115 (gX12_thrown hst fu s320 a2) rfl rfl (by decide) rfl rfl ⟨by decide, by decide, by omega, by omega, Nat.le_of_ble_eq_true rfl⟩ rfl (fun x323 s322 => ?_)
  refine G_iload (x := x317) (pc := 1513) dL_law_1513 rfl ?_
  refine G_icmp_eq (tgt := 1520) (pc := 1515) dL_law_1515 ?_ ?_
  · refine G_iload (x := x317) (pc := 1520) dL_law_1520 rfl ?_
    refine G_if_ne (tgt := 1537) (pc := 1522) dL_law_1522 ?_ ?_
    · refine G_less (bc2 := (4 * F)) (bs2 := (24 * F)) (by omega) (by omega) ?_
      refine G_fg (lv2 := [vA K.2.2.2.2.2.1, vR a1, vR a2, vR a3, vI a4, vU, vU, vU]) ⟨Or.inr rfl, Or.inr rfl, Or.inr rfl, Or.inr rfl, Or.inr rfl, Or.inl rfl, Or.inl rfl, Or.inl rfl, trivial⟩ ?_
      exact gL_law_J1537 hst fu F s322 a1 a2 a3 a4 _ _ (fun w v4 => hr w v4) hk
    · refine G_aload_n (x := a3) (pc := 1525) dL_law_1525 rfl ?_
      refine G_iconst (pc := 1526) dL_law_1526 ?_
      refine G_lald (pc := 1527) dL_law_1527 (fun x324 => ?_)
      refine G_iload (x := x321) (pc := 1528) dL_law_1528 rfl ?_
      refine G_i2l (pc := 1530) dL_law_1530 ?_
      refine G_lcmp (pc := 1531) dL_law_1531 (fun x325 => ?_)
      refine G_if_eq (tgt := 1537) (pc := 1532) dL_law_1532 ?_ ?_
      · refine G_less (bc2 := (4 * F)) (bs2 := (24 * F)) (by omega) (by omega) ?_
        refine G_fg (lv2 := [vA K.2.2.2.2.2.1, vR a1, vR a2, vR a3, vI a4, vU, vU, vU]) ⟨Or.inr rfl, Or.inr rfl, Or.inr rfl, Or.inr rfl, Or.inr rfl, Or.inl rfl, Or.inl rfl, Or.inl rfl, trivial⟩ ?_
        exact gL_law_J1537 hst fu F s322 a1 a2 a3 a4 _ _ (fun w v4 => hr w v4) hk
      · refine G_iconst (pc := 1535) dL_law_1535 ?_
        exact G_zret (pc := 1536) dL_law_1536
  · refine G_iconst (pc := 1518) dL_law_1518 ?_
    exact G_zret (pc := 1519) dL_law_1519
def fL_law_J1593 (fu L : Nat) (xs : Nat → Int32) (s : z_M) (a1 : Int) (a2 : Int) (a3 : Int) (a4 : Int) (r : z_M → Int → z_O) (k : z_M → z_O) : z_O := fL_law_J2073 fu L xs s a1 a2 a3 a4 (fun w v4 => r w v4) k
theorem gL_law_J1593 {l : Launch} {K : z_K} (hst : l.stackTraces = false) (fu F : Nat) (s : z_M) (a1 : Int) (a2 : Int) (a3 : Int) (a4 : Int) (r : z_M → Int → z_O) (k : z_M → z_O) (hr : ∀ (s : z_M) (a4 : Int), G l K mL_law 13 295 (4 * F) (24 * F) 23 [vA K.2.2.2.2.2.1, vR a1, vR a2, vR a3, vI a4, vU, vU, vU] [] s (r s a4)) (hk : ∀ (s : z_M), G l K mL_law 13 295 0 0 2079 [vA K.2.2.2.2.2.1, vU, vU, vU, vU, vU, vU, vU] [] s (k s)) : G l K mL_law 13 295 (4 * F) (24 * F) 1593 [vA K.2.2.2.2.2.1, vR a1, vR a2, vR a3, vI a4, vU, vU, vU] [] s (fL_law_J1593 fu K.2.2.2.2.2.2.1 K.2.2.2.2.2.2.2 s a1 a2 a3 a4 r k) := by
  unfold fL_law_J1593
  refine G_goto (tgt := 2073) (pc := 1593) dL_law_1593 ?_
  refine G_less (bc2 := (4 * F)) (bs2 := (24 * F)) (by omega) (by omega) ?_
  exact gL_law_J2073 hst fu F s a1 a2 a3 a4 _ _ (fun w v4 => hr w v4) hk
def fL_law_J1540 (fu L : Nat) (xs : Nat → Int32) (s : z_M) (a1 : Int) (a2 : Int) (a3 : Int) (a4 : Int) (r : z_M → Int → z_O) (k : z_M → z_O) : z_O := z_let (z_w (a4 + 1)) (fun x326 => if 0 ≤ x326 ∧ x326 < (L : Int) then z_let (Int32.toInt (xs (Int.toNat x326))) (fun x327 => z_bI (fL_partner fu s a1 x327 a3) (fun x329 s328 => z_let (z_w (a4 + 1)) (fun x330 => if 0 ≤ x330 ∧ x330 < (L : Int) then z_let (Int32.toInt (xs (Int.toNat x330))) (fun x331 => if z_ob a2 12 then z_bI (fX12_partner fu s328 a2 x331) (fun x333 s332 => if z_ob a2 12 then z_bI (fX12_thrown fu s332 a2) (fun x335 s334 => if (x335 : Int) = x329 then (if (x329 : Int) ≠ 0 then (fL_law_J1593 fu L xs s334 a1 a2 a3 a4 (fun w v4 => r w v4) k) else (if z_ix a3 101 0 then z_let (s334 a3 0) (fun x336 => z_let (z_cmp x336 x333) (fun x337 => if (x337 : Int) = 0 then (fL_law_J1593 fu L xs s334 a1 a2 a3 a4 (fun w v4 => r w v4) k) else (if z_bl 0 then some (vI 0, s334) else none))) else none)) else (if z_bl 0 then some (vI 0, s334) else none)) else none) else none) else none))) else none)
theorem gL_law_J1540 {l : Launch} {K : z_K} (hst : l.stackTraces = false) (fu F : Nat) (s : z_M) (a1 : Int) (a2 : Int) (a3 : Int) (a4 : Int) (r : z_M → Int → z_O) (k : z_M → z_O) (hr : ∀ (s : z_M) (a4 : Int), G l K mL_law 13 295 (4 * F) (24 * F) 23 [vA K.2.2.2.2.2.1, vR a1, vR a2, vR a3, vI a4, vU, vU, vU] [] s (r s a4)) (hk : ∀ (s : z_M), G l K mL_law 13 295 0 0 2079 [vA K.2.2.2.2.2.1, vU, vU, vU, vU, vU, vU, vU] [] s (k s)) : G l K mL_law 13 295 (4 * F + 1) (24 * F + 6) 1540 [vA K.2.2.2.2.2.1, vR a1, vR a2, vR a3, vI a4, vU, vU, vU] [] s (fL_law_J1540 fu K.2.2.2.2.2.2.1 K.2.2.2.2.2.2.2 s a1 a2 a3 a4 r k) := by
  unfold fL_law_J1540
  refine G_aload_n (x := a1) (pc := 1540) dL_law_1540 rfl ?_
  refine G_sload_n (pc := 1541) dL_law_1541 rfl ?_
  refine G_iload (x := a4) (pc := 1542) dL_law_1542 rfl ?_
  refine G_iconst (pc := 1544) dL_law_1544 ?_
  refine G_iadd (pc := 1545) dL_law_1545 (fun x326 => ?_)
  refine G_sald (pc := 1546) dL_law_1546 (fun x327 => ?_)
  refine G_aload_n (x := a3) (pc := 1547) dL_law_1547 rfl ?_
  refine G_callSI (as := [vR a1, vI x327, vR a3]) (st := []) (bc2 := (4 * F)) (bs2 := (24 * F)) (pc := 1548) dL_law_1548 z_mL_partner z_sL_partner z_wL_192 (gL_partner hst fu s a1 x327 a3) rfl rfl ⟨by decide, by decide, by omega, by omega, Nat.le_of_ble_eq_true rfl⟩ rfl (fun x329 s328 => ?_)
  refine G_istore (lv' := [vA K.2.2.2.2.2.1, vR a1, vR a2, vR a3, vI a4, vI x329, vU, vU]) (pc := 1551) dL_law_1551 rfl ?_
  refine G_aload_n (x := a2) (pc := 1553) dL_law_1553 rfl ?_
  refine G_sload_n (pc := 1554) dL_law_1554 rfl ?_
  refine G_iload (x := a4) (pc := 1555) dL_law_1555 rfl ?_
  refine G_iconst (pc := 1557) dL_law_1557 ?_
  refine G_iadd (pc := 1558) dL_law_1558 (fun x330 => ?_)
  refine G_sald (pc := 1559) dL_law_1559 (fun x331 => ?_)
  refine G_callVI (as := [vI x331]) (st := []) (c := 12) (bc2 := (4 * F)) (bs2 := (24 * F)) (pc := 1560) dL_law_1560 z_mX12_partner z_vX12_partner z_wL_194 (gX12_partner hst fu s328 a2 x331) rfl rfl (by decide) rfl rfl ⟨by decide, by decide, by omega, by omega, Nat.le_of_ble_eq_true rfl⟩ rfl (fun x333 s332 => ?_)
  refine G_istore (lv' := [vA K.2.2.2.2.2.1, vR a1, vR a2, vR a3, vI a4, vI x329, vI x333, vU]) (pc := 1563) dL_law_1563 rfl ?_
  refine G_aload_n (x := a2) (pc := 1565) dL_law_1565 rfl ?_
  refine G_callVI (as := []) (st := []) (c := 12) (bc2 := (4 * F)) (bs2 := (24 * F)) (pc := 1566) dL_law_1566 z_mX12_thrown z_vX12_thrown z_wL_115 (gX12_thrown hst fu s332 a2) rfl rfl (by decide) rfl rfl ⟨by decide, by decide, by omega, by omega, Nat.le_of_ble_eq_true rfl⟩ rfl (fun x335 s334 => ?_)
  refine G_iload (x := x329) (pc := 1569) dL_law_1569 rfl ?_
  refine G_icmp_eq (tgt := 1576) (pc := 1571) dL_law_1571 ?_ ?_
  · refine G_iload (x := x329) (pc := 1576) dL_law_1576 rfl ?_
    refine G_if_ne (tgt := 1593) (pc := 1578) dL_law_1578 ?_ ?_
    · refine G_less (bc2 := (4 * F)) (bs2 := (24 * F)) (by omega) (by omega) ?_
      refine G_fg (lv2 := [vA K.2.2.2.2.2.1, vR a1, vR a2, vR a3, vI a4, vU, vU, vU]) ⟨Or.inr rfl, Or.inr rfl, Or.inr rfl, Or.inr rfl, Or.inr rfl, Or.inl rfl, Or.inl rfl, Or.inl rfl, trivial⟩ ?_
      exact gL_law_J1593 hst fu F s334 a1 a2 a3 a4 _ _ (fun w v4 => hr w v4) hk
    · refine G_aload_n (x := a3) (pc := 1581) dL_law_1581 rfl ?_
      refine G_iconst (pc := 1582) dL_law_1582 ?_
      refine G_lald (pc := 1583) dL_law_1583 (fun x336 => ?_)
      refine G_iload (x := x333) (pc := 1584) dL_law_1584 rfl ?_
      refine G_i2l (pc := 1586) dL_law_1586 ?_
      refine G_lcmp (pc := 1587) dL_law_1587 (fun x337 => ?_)
      refine G_if_eq (tgt := 1593) (pc := 1588) dL_law_1588 ?_ ?_
      · refine G_less (bc2 := (4 * F)) (bs2 := (24 * F)) (by omega) (by omega) ?_
        refine G_fg (lv2 := [vA K.2.2.2.2.2.1, vR a1, vR a2, vR a3, vI a4, vU, vU, vU]) ⟨Or.inr rfl, Or.inr rfl, Or.inr rfl, Or.inr rfl, Or.inr rfl, Or.inl rfl, Or.inl rfl, Or.inl rfl, trivial⟩ ?_
        exact gL_law_J1593 hst fu F s334 a1 a2 a3 a4 _ _ (fun w v4 => hr w v4) hk
      · refine G_iconst (pc := 1591) dL_law_1591 ?_
        exact G_zret (pc := 1592) dL_law_1592
  · refine G_iconst (pc := 1574) dL_law_1574 ?_
    exact G_zret (pc := 1575) dL_law_1575
def fL_law_J1673 (fu L : Nat) (xs : Nat → Int32) (s : z_M) (a1 : Int) (a2 : Int) (a3 : Int) (a4 : Int) (r : z_M → Int → z_O) (k : z_M → z_O) : z_O := fL_law_J2073 fu L xs s a1 a2 a3 a4 (fun w v4 => r w v4) k
theorem gL_law_J1673 {l : Launch} {K : z_K} (hst : l.stackTraces = false) (fu F : Nat) (s : z_M) (a1 : Int) (a2 : Int) (a3 : Int) (a4 : Int) (r : z_M → Int → z_O) (k : z_M → z_O) (hr : ∀ (s : z_M) (a4 : Int), G l K mL_law 13 295 (4 * F) (24 * F) 23 [vA K.2.2.2.2.2.1, vR a1, vR a2, vR a3, vI a4, vU, vU, vU] [] s (r s a4)) (hk : ∀ (s : z_M), G l K mL_law 13 295 0 0 2079 [vA K.2.2.2.2.2.1, vU, vU, vU, vU, vU, vU, vU] [] s (k s)) : G l K mL_law 13 295 (4 * F) (24 * F) 1673 [vA K.2.2.2.2.2.1, vR a1, vR a2, vR a3, vI a4, vU, vU, vU] [] s (fL_law_J1673 fu K.2.2.2.2.2.2.1 K.2.2.2.2.2.2.2 s a1 a2 a3 a4 r k) := by
  unfold fL_law_J1673
  refine G_goto (tgt := 2073) (pc := 1673) dL_law_1673 ?_
  refine G_less (bc2 := (4 * F)) (bs2 := (24 * F)) (by omega) (by omega) ?_
  exact gL_law_J2073 hst fu F s a1 a2 a3 a4 _ _ (fun w v4 => hr w v4) hk
def fL_law_J1596 (fu L : Nat) (xs : Nat → Int32) (s : z_M) (a1 : Int) (a2 : Int) (a3 : Int) (a4 : Int) (r : z_M → Int → z_O) (k : z_M → z_O) : z_O := z_let (z_w (a4 + 1)) (fun x338 => if 0 ≤ x338 ∧ x338 < (L : Int) then z_let (Int32.toInt (xs (Int.toNat x338))) (fun x339 => z_let (z_w (a4 + 2)) (fun x340 => if 0 ≤ x340 ∧ x340 < (L : Int) then z_let (Int32.toInt (xs (Int.toNat x340))) (fun x341 => z_let (z_w (a4 + 3)) (fun x342 => if 0 ≤ x342 ∧ x342 < (L : Int) then z_let (Int32.toInt (xs (Int.toNat x342))) (fun x343 => z_bI (fL_side fu s a1 x339 x341 x343 a3) (fun x345 s344 => z_let (z_w (a4 + 1)) (fun x346 => if 0 ≤ x346 ∧ x346 < (L : Int) then z_let (Int32.toInt (xs (Int.toNat x346))) (fun x347 => z_let (z_w (a4 + 2)) (fun x348 => if 0 ≤ x348 ∧ x348 < (L : Int) then z_let (Int32.toInt (xs (Int.toNat x348))) (fun x349 => z_let (z_w (a4 + 3)) (fun x350 => if 0 ≤ x350 ∧ x350 < (L : Int) then z_let (Int32.toInt (xs (Int.toNat x350))) (fun x351 => if z_ob a2 12 then z_bI (fX12_side fu s344 a2 x347 x349 x351) (fun x353 s352 => if z_ob a2 12 then z_bI (fX12_thrown fu s352 a2) (fun x355 s354 => if (x355 : Int) = x345 then (if (x345 : Int) ≠ 0 then (fL_law_J1673 fu L xs s354 a1 a2 a3 a4 (fun w v4 => r w v4) k) else (if z_ix a3 101 0 then z_let (s354 a3 0) (fun x356 => z_let (z_cmp x356 x353) (fun x357 => if (x357 : Int) = 0 then (fL_law_J1673 fu L xs s354 a1 a2 a3 a4 (fun w v4 => r w v4) k) else (if z_bl 0 then some (vI 0, s354) else none))) else none)) else (if z_bl 0 then some (vI 0, s354) else none)) else none) else none) else none)) else none)) else none))) else none)) else none)) else none)
theorem gL_law_J1596 {l : Launch} {K : z_K} (hst : l.stackTraces = false) (fu F : Nat) (s : z_M) (a1 : Int) (a2 : Int) (a3 : Int) (a4 : Int) (r : z_M → Int → z_O) (k : z_M → z_O) (hr : ∀ (s : z_M) (a4 : Int), G l K mL_law 13 295 (4 * F) (24 * F) 23 [vA K.2.2.2.2.2.1, vR a1, vR a2, vR a3, vI a4, vU, vU, vU] [] s (r s a4)) (hk : ∀ (s : z_M), G l K mL_law 13 295 0 0 2079 [vA K.2.2.2.2.2.1, vU, vU, vU, vU, vU, vU, vU] [] s (k s)) : G l K mL_law 13 295 (4 * F + 3) (24 * F + 18) 1596 [vA K.2.2.2.2.2.1, vR a1, vR a2, vR a3, vI a4, vU, vU, vU] [] s (fL_law_J1596 fu K.2.2.2.2.2.2.1 K.2.2.2.2.2.2.2 s a1 a2 a3 a4 r k) := by
  unfold fL_law_J1596
  refine G_aload_n (x := a1) (pc := 1596) dL_law_1596 rfl ?_
  refine G_sload_n (pc := 1597) dL_law_1597 rfl ?_
  refine G_iload (x := a4) (pc := 1598) dL_law_1598 rfl ?_
  refine G_iconst (pc := 1600) dL_law_1600 ?_
  refine G_iadd (pc := 1601) dL_law_1601 (fun x338 => ?_)
  refine G_sald (pc := 1602) dL_law_1602 (fun x339 => ?_)
  refine G_sload_n (pc := 1603) dL_law_1603 rfl ?_
  refine G_iload (x := a4) (pc := 1604) dL_law_1604 rfl ?_
  refine G_iconst (pc := 1606) dL_law_1606 ?_
  refine G_iadd (pc := 1607) dL_law_1607 (fun x340 => ?_)
  refine G_sald (pc := 1608) dL_law_1608 (fun x341 => ?_)
  refine G_sload_n (pc := 1609) dL_law_1609 rfl ?_
  refine G_iload (x := a4) (pc := 1610) dL_law_1610 rfl ?_
  refine G_iconst (pc := 1612) dL_law_1612 ?_
  refine G_iadd (pc := 1613) dL_law_1613 (fun x342 => ?_)
  refine G_sald (pc := 1614) dL_law_1614 (fun x343 => ?_)
  refine G_aload_n (x := a3) (pc := 1615) dL_law_1615 rfl ?_
  refine G_callSI (as := [vR a1, vI x339, vI x341, vI x343, vR a3]) (st := []) (bc2 := (4 * F)) (bs2 := (24 * F)) (pc := 1616) dL_law_1616 z_mL_side z_sL_side z_wL_195 (gL_side hst fu s a1 x339 x341 x343 a3) rfl rfl ⟨by decide, by decide, by omega, by omega, Nat.le_of_ble_eq_true rfl⟩ rfl (fun x345 s344 => ?_)
  refine G_istore (lv' := [vA K.2.2.2.2.2.1, vR a1, vR a2, vR a3, vI a4, vI x345, vU, vU]) (pc := 1619) dL_law_1619 rfl ?_
  refine G_aload_n (x := a2) (pc := 1621) dL_law_1621 rfl ?_
  refine G_sload_n (pc := 1622) dL_law_1622 rfl ?_
  refine G_iload (x := a4) (pc := 1623) dL_law_1623 rfl ?_
  refine G_iconst (pc := 1625) dL_law_1625 ?_
  refine G_iadd (pc := 1626) dL_law_1626 (fun x346 => ?_)
  refine G_sald (pc := 1627) dL_law_1627 (fun x347 => ?_)
  refine G_sload_n (pc := 1628) dL_law_1628 rfl ?_
  refine G_iload (x := a4) (pc := 1629) dL_law_1629 rfl ?_
  refine G_iconst (pc := 1631) dL_law_1631 ?_
  refine G_iadd (pc := 1632) dL_law_1632 (fun x348 => ?_)
  refine G_sald (pc := 1633) dL_law_1633 (fun x349 => ?_)
  refine G_sload_n (pc := 1634) dL_law_1634 rfl ?_
  refine G_iload (x := a4) (pc := 1635) dL_law_1635 rfl ?_
  refine G_iconst (pc := 1637) dL_law_1637 ?_
  refine G_iadd (pc := 1638) dL_law_1638 (fun x350 => ?_)
  refine G_sald (pc := 1639) dL_law_1639 (fun x351 => ?_)
  refine G_callVI (as := [vI x347, vI x349, vI x351]) (st := []) (c := 12) (bc2 := (4 * F)) (bs2 := (24 * F)) (pc := 1640) dL_law_1640 z_mX12_side z_vX12_side z_wL_198 (gX12_side hst fu s344 a2 x347 x349 x351) rfl rfl (by decide) rfl rfl ⟨by decide, by decide, by omega, by omega, Nat.le_of_ble_eq_true rfl⟩ rfl (fun x353 s352 => ?_)
  refine G_istore (lv' := [vA K.2.2.2.2.2.1, vR a1, vR a2, vR a3, vI a4, vI x345, vI x353, vU]) (pc := 1643) dL_law_1643 rfl ?_
  refine G_aload_n (x := a2) (pc := 1645) dL_law_1645 rfl ?_
  refine G_callVI (as := []) (st := []) (c := 12) (bc2 := (4 * F)) (bs2 := (24 * F)) (pc := 1646) dL_law_1646 z_mX12_thrown z_vX12_thrown z_wL_115 (gX12_thrown hst fu s352 a2) rfl rfl (by decide) rfl rfl ⟨by decide, by decide, by omega, by omega, Nat.le_of_ble_eq_true rfl⟩ rfl (fun x355 s354 => ?_)
  refine G_iload (x := x345) (pc := 1649) dL_law_1649 rfl ?_
  refine G_icmp_eq (tgt := 1656) (pc := 1651) dL_law_1651 ?_ ?_
  · refine G_iload (x := x345) (pc := 1656) dL_law_1656 rfl ?_
    refine G_if_ne (tgt := 1673) (pc := 1658) dL_law_1658 ?_ ?_
    · refine G_less (bc2 := (4 * F)) (bs2 := (24 * F)) (by omega) (by omega) ?_
      refine G_fg (lv2 := [vA K.2.2.2.2.2.1, vR a1, vR a2, vR a3, vI a4, vU, vU, vU]) ⟨Or.inr rfl, Or.inr rfl, Or.inr rfl, Or.inr rfl, Or.inr rfl, Or.inl rfl, Or.inl rfl, Or.inl rfl, trivial⟩ ?_
      exact gL_law_J1673 hst fu F s354 a1 a2 a3 a4 _ _ (fun w v4 => hr w v4) hk
    · refine G_aload_n (x := a3) (pc := 1661) dL_law_1661 rfl ?_
      refine G_iconst (pc := 1662) dL_law_1662 ?_
      refine G_lald (pc := 1663) dL_law_1663 (fun x356 => ?_)
      refine G_iload (x := x353) (pc := 1664) dL_law_1664 rfl ?_
      refine G_i2l (pc := 1666) dL_law_1666 ?_
      refine G_lcmp (pc := 1667) dL_law_1667 (fun x357 => ?_)
      refine G_if_eq (tgt := 1673) (pc := 1668) dL_law_1668 ?_ ?_
      · refine G_less (bc2 := (4 * F)) (bs2 := (24 * F)) (by omega) (by omega) ?_
        refine G_fg (lv2 := [vA K.2.2.2.2.2.1, vR a1, vR a2, vR a3, vI a4, vU, vU, vU]) ⟨Or.inr rfl, Or.inr rfl, Or.inr rfl, Or.inr rfl, Or.inr rfl, Or.inl rfl, Or.inl rfl, Or.inl rfl, trivial⟩ ?_
        exact gL_law_J1673 hst fu F s354 a1 a2 a3 a4 _ _ (fun w v4 => hr w v4) hk
      · refine G_iconst (pc := 1671) dL_law_1671 ?_
        exact G_zret (pc := 1672) dL_law_1672
  · refine G_iconst (pc := 1654) dL_law_1654 ?_
    exact G_zret (pc := 1655) dL_law_1655
def fL_law_J1729 (fu L : Nat) (xs : Nat → Int32) (s : z_M) (a1 : Int) (a2 : Int) (a3 : Int) (a4 : Int) (r : z_M → Int → z_O) (k : z_M → z_O) : z_O := fL_law_J2073 fu L xs s a1 a2 a3 a4 (fun w v4 => r w v4) k
theorem gL_law_J1729 {l : Launch} {K : z_K} (hst : l.stackTraces = false) (fu F : Nat) (s : z_M) (a1 : Int) (a2 : Int) (a3 : Int) (a4 : Int) (r : z_M → Int → z_O) (k : z_M → z_O) (hr : ∀ (s : z_M) (a4 : Int), G l K mL_law 13 295 (4 * F) (24 * F) 23 [vA K.2.2.2.2.2.1, vR a1, vR a2, vR a3, vI a4, vU, vU, vU] [] s (r s a4)) (hk : ∀ (s : z_M), G l K mL_law 13 295 0 0 2079 [vA K.2.2.2.2.2.1, vU, vU, vU, vU, vU, vU, vU] [] s (k s)) : G l K mL_law 13 295 (4 * F) (24 * F) 1729 [vA K.2.2.2.2.2.1, vR a1, vR a2, vR a3, vI a4, vU, vU, vU] [] s (fL_law_J1729 fu K.2.2.2.2.2.2.1 K.2.2.2.2.2.2.2 s a1 a2 a3 a4 r k) := by
  unfold fL_law_J1729
  refine G_goto (tgt := 2073) (pc := 1729) dL_law_1729 ?_
  refine G_less (bc2 := (4 * F)) (bs2 := (24 * F)) (by omega) (by omega) ?_
  exact gL_law_J2073 hst fu F s a1 a2 a3 a4 _ _ (fun w v4 => hr w v4) hk
def fL_law_J1676 (fu L : Nat) (xs : Nat → Int32) (s : z_M) (a1 : Int) (a2 : Int) (a3 : Int) (a4 : Int) (r : z_M → Int → z_O) (k : z_M → z_O) : z_O := z_let (z_w (a4 + 1)) (fun x358 => if 0 ≤ x358 ∧ x358 < (L : Int) then z_let (Int32.toInt (xs (Int.toNat x358))) (fun x359 => z_bI (fL_gutter fu s a1 x359 a3) (fun x361 s360 => z_let (z_w (a4 + 1)) (fun x362 => if 0 ≤ x362 ∧ x362 < (L : Int) then z_let (Int32.toInt (xs (Int.toNat x362))) (fun x363 => if z_ob a2 12 then z_bI (fX12_gutter fu s360 a2 x363) (fun x365 s364 => if z_ob a2 12 then z_bI (fX12_thrown fu s364 a2) (fun x367 s366 => if (x367 : Int) = x361 then (if (x361 : Int) ≠ 0 then (fL_law_J1729 fu L xs s366 a1 a2 a3 a4 (fun w v4 => r w v4) k) else (if z_ix a3 101 0 then z_let (s366 a3 0) (fun x368 => z_let (z_cmp x368 x365) (fun x369 => if (x369 : Int) = 0 then (fL_law_J1729 fu L xs s366 a1 a2 a3 a4 (fun w v4 => r w v4) k) else (if z_bl 0 then some (vI 0, s366) else none))) else none)) else (if z_bl 0 then some (vI 0, s366) else none)) else none) else none) else none))) else none)
theorem gL_law_J1676 {l : Launch} {K : z_K} (hst : l.stackTraces = false) (fu F : Nat) (s : z_M) (a1 : Int) (a2 : Int) (a3 : Int) (a4 : Int) (r : z_M → Int → z_O) (k : z_M → z_O) (hr : ∀ (s : z_M) (a4 : Int), G l K mL_law 13 295 (4 * F) (24 * F) 23 [vA K.2.2.2.2.2.1, vR a1, vR a2, vR a3, vI a4, vU, vU, vU] [] s (r s a4)) (hk : ∀ (s : z_M), G l K mL_law 13 295 0 0 2079 [vA K.2.2.2.2.2.1, vU, vU, vU, vU, vU, vU, vU] [] s (k s)) : G l K mL_law 13 295 (4 * F + 1) (24 * F + 6) 1676 [vA K.2.2.2.2.2.1, vR a1, vR a2, vR a3, vI a4, vU, vU, vU] [] s (fL_law_J1676 fu K.2.2.2.2.2.2.1 K.2.2.2.2.2.2.2 s a1 a2 a3 a4 r k) := by
  unfold fL_law_J1676
  refine G_aload_n (x := a1) (pc := 1676) dL_law_1676 rfl ?_
  refine G_sload_n (pc := 1677) dL_law_1677 rfl ?_
  refine G_iload (x := a4) (pc := 1678) dL_law_1678 rfl ?_
  refine G_iconst (pc := 1680) dL_law_1680 ?_
  refine G_iadd (pc := 1681) dL_law_1681 (fun x358 => ?_)
  refine G_sald (pc := 1682) dL_law_1682 (fun x359 => ?_)
  refine G_aload_n (x := a3) (pc := 1683) dL_law_1683 rfl ?_
  refine G_callSI (as := [vR a1, vI x359, vR a3]) (st := []) (bc2 := (4 * F)) (bs2 := (24 * F)) (pc := 1684) dL_law_1684 z_mL_gutter z_sL_gutter z_wL_199 (gL_gutter hst fu s a1 x359 a3) rfl rfl ⟨by decide, by decide, by omega, by omega, Nat.le_of_ble_eq_true rfl⟩ rfl (fun x361 s360 => ?_)
  refine G_istore (lv' := [vA K.2.2.2.2.2.1, vR a1, vR a2, vR a3, vI a4, vI x361, vU, vU]) (pc := 1687) dL_law_1687 rfl ?_
  refine G_aload_n (x := a2) (pc := 1689) dL_law_1689 rfl ?_
  refine G_sload_n (pc := 1690) dL_law_1690 rfl ?_
  refine G_iload (x := a4) (pc := 1691) dL_law_1691 rfl ?_
  refine G_iconst (pc := 1693) dL_law_1693 ?_
  refine G_iadd (pc := 1694) dL_law_1694 (fun x362 => ?_)
  refine G_sald (pc := 1695) dL_law_1695 (fun x363 => ?_)
  refine G_callVI (as := [vI x363]) (st := []) (c := 12) (bc2 := (4 * F)) (bs2 := (24 * F)) (pc := 1696) dL_law_1696 z_mX12_gutter z_vX12_gutter z_wL_201 (gX12_gutter hst fu s360 a2 x363) rfl rfl (by decide) rfl rfl ⟨by decide, by decide, by omega, by omega, Nat.le_of_ble_eq_true rfl⟩ rfl (fun x365 s364 => ?_)
  refine G_istore (lv' := [vA K.2.2.2.2.2.1, vR a1, vR a2, vR a3, vI a4, vI x361, vI x365, vU]) (pc := 1699) dL_law_1699 rfl ?_
  refine G_aload_n (x := a2) (pc := 1701) dL_law_1701 rfl ?_
  refine G_callVI (as := []) (st := []) (c := 12) (bc2 := (4 * F)) (bs2 := (24 * F)) (pc := 1702) dL_law_1702 z_mX12_thrown z_vX12_thrown z_wL_115 (gX12_thrown hst fu s364 a2) rfl rfl (by decide) rfl rfl ⟨by decide, by decide, by omega, by omega, Nat.le_of_ble_eq_true rfl⟩ rfl (fun x367 s366 => ?_)
  refine G_iload (x := x361) (pc := 1705) dL_law_1705 rfl ?_
  refine G_icmp_eq (tgt := 1712) (pc := 1707) dL_law_1707 ?_ ?_
  · refine G_iload (x := x361) (pc := 1712) dL_law_1712 rfl ?_
    refine G_if_ne (tgt := 1729) (pc := 1714) dL_law_1714 ?_ ?_
    · refine G_less (bc2 := (4 * F)) (bs2 := (24 * F)) (by omega) (by omega) ?_
      refine G_fg (lv2 := [vA K.2.2.2.2.2.1, vR a1, vR a2, vR a3, vI a4, vU, vU, vU]) ⟨Or.inr rfl, Or.inr rfl, Or.inr rfl, Or.inr rfl, Or.inr rfl, Or.inl rfl, Or.inl rfl, Or.inl rfl, trivial⟩ ?_
      exact gL_law_J1729 hst fu F s366 a1 a2 a3 a4 _ _ (fun w v4 => hr w v4) hk
    · refine G_aload_n (x := a3) (pc := 1717) dL_law_1717 rfl ?_
      refine G_iconst (pc := 1718) dL_law_1718 ?_
      refine G_lald (pc := 1719) dL_law_1719 (fun x368 => ?_)
      refine G_iload (x := x365) (pc := 1720) dL_law_1720 rfl ?_
      refine G_i2l (pc := 1722) dL_law_1722 ?_
      refine G_lcmp (pc := 1723) dL_law_1723 (fun x369 => ?_)
      refine G_if_eq (tgt := 1729) (pc := 1724) dL_law_1724 ?_ ?_
      · refine G_less (bc2 := (4 * F)) (bs2 := (24 * F)) (by omega) (by omega) ?_
        refine G_fg (lv2 := [vA K.2.2.2.2.2.1, vR a1, vR a2, vR a3, vI a4, vU, vU, vU]) ⟨Or.inr rfl, Or.inr rfl, Or.inr rfl, Or.inr rfl, Or.inr rfl, Or.inl rfl, Or.inl rfl, Or.inl rfl, trivial⟩ ?_
        exact gL_law_J1729 hst fu F s366 a1 a2 a3 a4 _ _ (fun w v4 => hr w v4) hk
      · refine G_iconst (pc := 1727) dL_law_1727 ?_
        exact G_zret (pc := 1728) dL_law_1728
  · refine G_iconst (pc := 1710) dL_law_1710 ?_
    exact G_zret (pc := 1711) dL_law_1711
def fL_law_J1785 (fu L : Nat) (xs : Nat → Int32) (s : z_M) (a1 : Int) (a2 : Int) (a3 : Int) (a4 : Int) (r : z_M → Int → z_O) (k : z_M → z_O) : z_O := fL_law_J2073 fu L xs s a1 a2 a3 a4 (fun w v4 => r w v4) k
theorem gL_law_J1785 {l : Launch} {K : z_K} (hst : l.stackTraces = false) (fu F : Nat) (s : z_M) (a1 : Int) (a2 : Int) (a3 : Int) (a4 : Int) (r : z_M → Int → z_O) (k : z_M → z_O) (hr : ∀ (s : z_M) (a4 : Int), G l K mL_law 13 295 (4 * F) (24 * F) 23 [vA K.2.2.2.2.2.1, vR a1, vR a2, vR a3, vI a4, vU, vU, vU] [] s (r s a4)) (hk : ∀ (s : z_M), G l K mL_law 13 295 0 0 2079 [vA K.2.2.2.2.2.1, vU, vU, vU, vU, vU, vU, vU] [] s (k s)) : G l K mL_law 13 295 (4 * F) (24 * F) 1785 [vA K.2.2.2.2.2.1, vR a1, vR a2, vR a3, vI a4, vU, vU, vU] [] s (fL_law_J1785 fu K.2.2.2.2.2.2.1 K.2.2.2.2.2.2.2 s a1 a2 a3 a4 r k) := by
  unfold fL_law_J1785
  refine G_goto (tgt := 2073) (pc := 1785) dL_law_1785 ?_
  refine G_less (bc2 := (4 * F)) (bs2 := (24 * F)) (by omega) (by omega) ?_
  exact gL_law_J2073 hst fu F s a1 a2 a3 a4 _ _ (fun w v4 => hr w v4) hk
def fL_law_J1732 (fu L : Nat) (xs : Nat → Int32) (s : z_M) (a1 : Int) (a2 : Int) (a3 : Int) (a4 : Int) (r : z_M → Int → z_O) (k : z_M → z_O) : z_O := z_let (z_w (a4 + 1)) (fun x370 => if 0 ≤ x370 ∧ x370 < (L : Int) then z_let (Int32.toInt (xs (Int.toNat x370))) (fun x371 => z_bI (fL_clash fu s a1 x371 a3) (fun x373 s372 => z_let (z_w (a4 + 1)) (fun x374 => if 0 ≤ x374 ∧ x374 < (L : Int) then z_let (Int32.toInt (xs (Int.toNat x374))) (fun x375 => if z_ob a2 12 then z_bI (fX12_clash fu s372 a2 x375) (fun x377 s376 => if z_ob a2 12 then z_bI (fX12_thrown fu s376 a2) (fun x379 s378 => if (x379 : Int) = x373 then (if (x373 : Int) ≠ 0 then (fL_law_J1785 fu L xs s378 a1 a2 a3 a4 (fun w v4 => r w v4) k) else (if z_ix a3 101 0 then z_let (s378 a3 0) (fun x380 => z_let (z_cmp x380 x377) (fun x381 => if (x381 : Int) = 0 then (fL_law_J1785 fu L xs s378 a1 a2 a3 a4 (fun w v4 => r w v4) k) else (if z_bl 0 then some (vI 0, s378) else none))) else none)) else (if z_bl 0 then some (vI 0, s378) else none)) else none) else none) else none))) else none)
theorem gL_law_J1732 {l : Launch} {K : z_K} (hst : l.stackTraces = false) (fu F : Nat) (s : z_M) (a1 : Int) (a2 : Int) (a3 : Int) (a4 : Int) (r : z_M → Int → z_O) (k : z_M → z_O) (hr : ∀ (s : z_M) (a4 : Int), G l K mL_law 13 295 (4 * F) (24 * F) 23 [vA K.2.2.2.2.2.1, vR a1, vR a2, vR a3, vI a4, vU, vU, vU] [] s (r s a4)) (hk : ∀ (s : z_M), G l K mL_law 13 295 0 0 2079 [vA K.2.2.2.2.2.1, vU, vU, vU, vU, vU, vU, vU] [] s (k s)) : G l K mL_law 13 295 (4 * F + 1) (24 * F + 6) 1732 [vA K.2.2.2.2.2.1, vR a1, vR a2, vR a3, vI a4, vU, vU, vU] [] s (fL_law_J1732 fu K.2.2.2.2.2.2.1 K.2.2.2.2.2.2.2 s a1 a2 a3 a4 r k) := by
  unfold fL_law_J1732
  refine G_aload_n (x := a1) (pc := 1732) dL_law_1732 rfl ?_
  refine G_sload_n (pc := 1733) dL_law_1733 rfl ?_
  refine G_iload (x := a4) (pc := 1734) dL_law_1734 rfl ?_
  refine G_iconst (pc := 1736) dL_law_1736 ?_
  refine G_iadd (pc := 1737) dL_law_1737 (fun x370 => ?_)
  refine G_sald (pc := 1738) dL_law_1738 (fun x371 => ?_)
  refine G_aload_n (x := a3) (pc := 1739) dL_law_1739 rfl ?_
  refine G_callSI (as := [vR a1, vI x371, vR a3]) (st := []) (bc2 := (4 * F)) (bs2 := (24 * F)) (pc := 1740) dL_law_1740 z_mL_clash z_sL_clash z_wL_202 (gL_clash hst fu s a1 x371 a3) rfl rfl ⟨by decide, by decide, by omega, by omega, Nat.le_of_ble_eq_true rfl⟩ rfl (fun x373 s372 => ?_)
  refine G_istore (lv' := [vA K.2.2.2.2.2.1, vR a1, vR a2, vR a3, vI a4, vI x373, vU, vU]) (pc := 1743) dL_law_1743 rfl ?_
  refine G_aload_n (x := a2) (pc := 1745) dL_law_1745 rfl ?_
  refine G_sload_n (pc := 1746) dL_law_1746 rfl ?_
  refine G_iload (x := a4) (pc := 1747) dL_law_1747 rfl ?_
  refine G_iconst (pc := 1749) dL_law_1749 ?_
  refine G_iadd (pc := 1750) dL_law_1750 (fun x374 => ?_)
  refine G_sald (pc := 1751) dL_law_1751 (fun x375 => ?_)
  refine G_callVI (as := [vI x375]) (st := []) (c := 12) (bc2 := (4 * F)) (bs2 := (24 * F)) (pc := 1752) dL_law_1752 z_mX12_clash z_vX12_clash z_wL_204 (gX12_clash hst fu s372 a2 x375) rfl rfl (by decide) rfl rfl ⟨by decide, by decide, by omega, by omega, Nat.le_of_ble_eq_true rfl⟩ rfl (fun x377 s376 => ?_)
  refine G_istore (lv' := [vA K.2.2.2.2.2.1, vR a1, vR a2, vR a3, vI a4, vI x373, vI x377, vU]) (pc := 1755) dL_law_1755 rfl ?_
  refine G_aload_n (x := a2) (pc := 1757) dL_law_1757 rfl ?_
  refine G_callVI (as := []) (st := []) (c := 12) (bc2 := (4 * F)) (bs2 := (24 * F)) (pc := 1758) dL_law_1758 z_mX12_thrown z_vX12_thrown z_wL_115 (gX12_thrown hst fu s376 a2) rfl rfl (by decide) rfl rfl ⟨by decide, by decide, by omega, by omega, Nat.le_of_ble_eq_true rfl⟩ rfl (fun x379 s378 => ?_)
  refine G_iload (x := x373) (pc := 1761) dL_law_1761 rfl ?_
  refine G_icmp_eq (tgt := 1768) (pc := 1763) dL_law_1763 ?_ ?_
  · refine G_iload (x := x373) (pc := 1768) dL_law_1768 rfl ?_
    refine G_if_ne (tgt := 1785) (pc := 1770) dL_law_1770 ?_ ?_
    · refine G_less (bc2 := (4 * F)) (bs2 := (24 * F)) (by omega) (by omega) ?_
      refine G_fg (lv2 := [vA K.2.2.2.2.2.1, vR a1, vR a2, vR a3, vI a4, vU, vU, vU]) ⟨Or.inr rfl, Or.inr rfl, Or.inr rfl, Or.inr rfl, Or.inr rfl, Or.inl rfl, Or.inl rfl, Or.inl rfl, trivial⟩ ?_
      exact gL_law_J1785 hst fu F s378 a1 a2 a3 a4 _ _ (fun w v4 => hr w v4) hk
    · refine G_aload_n (x := a3) (pc := 1773) dL_law_1773 rfl ?_
      refine G_iconst (pc := 1774) dL_law_1774 ?_
      refine G_lald (pc := 1775) dL_law_1775 (fun x380 => ?_)
      refine G_iload (x := x377) (pc := 1776) dL_law_1776 rfl ?_
      refine G_i2l (pc := 1778) dL_law_1778 ?_
      refine G_lcmp (pc := 1779) dL_law_1779 (fun x381 => ?_)
      refine G_if_eq (tgt := 1785) (pc := 1780) dL_law_1780 ?_ ?_
      · refine G_less (bc2 := (4 * F)) (bs2 := (24 * F)) (by omega) (by omega) ?_
        refine G_fg (lv2 := [vA K.2.2.2.2.2.1, vR a1, vR a2, vR a3, vI a4, vU, vU, vU]) ⟨Or.inr rfl, Or.inr rfl, Or.inr rfl, Or.inr rfl, Or.inr rfl, Or.inl rfl, Or.inl rfl, Or.inl rfl, trivial⟩ ?_
        exact gL_law_J1785 hst fu F s378 a1 a2 a3 a4 _ _ (fun w v4 => hr w v4) hk
      · refine G_iconst (pc := 1783) dL_law_1783 ?_
        exact G_zret (pc := 1784) dL_law_1784
  · refine G_iconst (pc := 1766) dL_law_1766 ?_
    exact G_zret (pc := 1767) dL_law_1767
def fL_law_J1853 (fu L : Nat) (xs : Nat → Int32) (s : z_M) (a1 : Int) (a2 : Int) (a3 : Int) (a4 : Int) (r : z_M → Int → z_O) (k : z_M → z_O) : z_O := fL_law_J2073 fu L xs s a1 a2 a3 a4 (fun w v4 => r w v4) k
theorem gL_law_J1853 {l : Launch} {K : z_K} (hst : l.stackTraces = false) (fu F : Nat) (s : z_M) (a1 : Int) (a2 : Int) (a3 : Int) (a4 : Int) (r : z_M → Int → z_O) (k : z_M → z_O) (hr : ∀ (s : z_M) (a4 : Int), G l K mL_law 13 295 (4 * F) (24 * F) 23 [vA K.2.2.2.2.2.1, vR a1, vR a2, vR a3, vI a4, vU, vU, vU] [] s (r s a4)) (hk : ∀ (s : z_M), G l K mL_law 13 295 0 0 2079 [vA K.2.2.2.2.2.1, vU, vU, vU, vU, vU, vU, vU] [] s (k s)) : G l K mL_law 13 295 (4 * F) (24 * F) 1853 [vA K.2.2.2.2.2.1, vR a1, vR a2, vR a3, vI a4, vU, vU, vU] [] s (fL_law_J1853 fu K.2.2.2.2.2.2.1 K.2.2.2.2.2.2.2 s a1 a2 a3 a4 r k) := by
  unfold fL_law_J1853
  refine G_goto (tgt := 2073) (pc := 1853) dL_law_1853 ?_
  refine G_less (bc2 := (4 * F)) (bs2 := (24 * F)) (by omega) (by omega) ?_
  exact gL_law_J2073 hst fu F s a1 a2 a3 a4 _ _ (fun w v4 => hr w v4) hk
def fL_law_J1788 (fu L : Nat) (xs : Nat → Int32) (s : z_M) (a1 : Int) (a2 : Int) (a3 : Int) (a4 : Int) (r : z_M → Int → z_O) (k : z_M → z_O) : z_O := z_let (z_w (a4 + 1)) (fun x382 => if 0 ≤ x382 ∧ x382 < (L : Int) then z_let (Int32.toInt (xs (Int.toNat x382))) (fun x383 => z_let (z_w (a4 + 2)) (fun x384 => if 0 ≤ x384 ∧ x384 < (L : Int) then z_let (Int32.toInt (xs (Int.toNat x384))) (fun x385 => z_bI (fL_thick fu s a1 x383 x385 a3) (fun x387 s386 => z_let (z_w (a4 + 1)) (fun x388 => if 0 ≤ x388 ∧ x388 < (L : Int) then z_let (Int32.toInt (xs (Int.toNat x388))) (fun x389 => z_let (z_w (a4 + 2)) (fun x390 => if 0 ≤ x390 ∧ x390 < (L : Int) then z_let (Int32.toInt (xs (Int.toNat x390))) (fun x391 => if z_ob a2 12 then z_bI (fX12_thick fu s386 a2 x389 x391) (fun x393 s392 => if z_ob a2 12 then z_bI (fX12_thrown fu s392 a2) (fun x395 s394 => if (x395 : Int) = x387 then (if (x387 : Int) ≠ 0 then (fL_law_J1853 fu L xs s394 a1 a2 a3 a4 (fun w v4 => r w v4) k) else (if z_ix a3 101 0 then z_let (s394 a3 0) (fun x396 => z_let (z_cmp x396 x393) (fun x397 => if (x397 : Int) = 0 then (fL_law_J1853 fu L xs s394 a1 a2 a3 a4 (fun w v4 => r w v4) k) else (if z_bl 0 then some (vI 0, s394) else none))) else none)) else (if z_bl 0 then some (vI 0, s394) else none)) else none) else none) else none)) else none))) else none)) else none)
theorem gL_law_J1788 {l : Launch} {K : z_K} (hst : l.stackTraces = false) (fu F : Nat) (s : z_M) (a1 : Int) (a2 : Int) (a3 : Int) (a4 : Int) (r : z_M → Int → z_O) (k : z_M → z_O) (hr : ∀ (s : z_M) (a4 : Int), G l K mL_law 13 295 (4 * F) (24 * F) 23 [vA K.2.2.2.2.2.1, vR a1, vR a2, vR a3, vI a4, vU, vU, vU] [] s (r s a4)) (hk : ∀ (s : z_M), G l K mL_law 13 295 0 0 2079 [vA K.2.2.2.2.2.1, vU, vU, vU, vU, vU, vU, vU] [] s (k s)) : G l K mL_law 13 295 (4 * F + 3) (24 * F + 18) 1788 [vA K.2.2.2.2.2.1, vR a1, vR a2, vR a3, vI a4, vU, vU, vU] [] s (fL_law_J1788 fu K.2.2.2.2.2.2.1 K.2.2.2.2.2.2.2 s a1 a2 a3 a4 r k) := by
  unfold fL_law_J1788
  refine G_aload_n (x := a1) (pc := 1788) dL_law_1788 rfl ?_
  refine G_sload_n (pc := 1789) dL_law_1789 rfl ?_
  refine G_iload (x := a4) (pc := 1790) dL_law_1790 rfl ?_
  refine G_iconst (pc := 1792) dL_law_1792 ?_
  refine G_iadd (pc := 1793) dL_law_1793 (fun x382 => ?_)
  refine G_sald (pc := 1794) dL_law_1794 (fun x383 => ?_)
  refine G_sload_n (pc := 1795) dL_law_1795 rfl ?_
  refine G_iload (x := a4) (pc := 1796) dL_law_1796 rfl ?_
  refine G_iconst (pc := 1798) dL_law_1798 ?_
  refine G_iadd (pc := 1799) dL_law_1799 (fun x384 => ?_)
  refine G_sald (pc := 1800) dL_law_1800 (fun x385 => ?_)
  refine G_aload_n (x := a3) (pc := 1801) dL_law_1801 rfl ?_
  refine G_callSI (as := [vR a1, vI x383, vI x385, vR a3]) (st := []) (bc2 := (4 * F)) (bs2 := (24 * F)) (pc := 1802) dL_law_1802 z_mL_thick z_sL_thick z_wL_205 (gL_thick hst fu s a1 x383 x385 a3) rfl rfl ⟨by decide, by decide, by omega, by omega, Nat.le_of_ble_eq_true rfl⟩ rfl (fun x387 s386 => ?_)
  refine G_istore (lv' := [vA K.2.2.2.2.2.1, vR a1, vR a2, vR a3, vI a4, vI x387, vU, vU]) (pc := 1805) dL_law_1805 rfl ?_
  refine G_aload_n (x := a2) (pc := 1807) dL_law_1807 rfl ?_
  refine G_sload_n (pc := 1808) dL_law_1808 rfl ?_
  refine G_iload (x := a4) (pc := 1809) dL_law_1809 rfl ?_
  refine G_iconst (pc := 1811) dL_law_1811 ?_
  refine G_iadd (pc := 1812) dL_law_1812 (fun x388 => ?_)
  refine G_sald (pc := 1813) dL_law_1813 (fun x389 => ?_)
  refine G_sload_n (pc := 1814) dL_law_1814 rfl ?_
  refine G_iload (x := a4) (pc := 1815) dL_law_1815 rfl ?_
  refine G_iconst (pc := 1817) dL_law_1817 ?_
  refine G_iadd (pc := 1818) dL_law_1818 (fun x390 => ?_)
  refine G_sald (pc := 1819) dL_law_1819 (fun x391 => ?_)
  refine G_callVI (as := [vI x389, vI x391]) (st := []) (c := 12) (bc2 := (4 * F)) (bs2 := (24 * F)) (pc := 1820) dL_law_1820 z_mX12_thick z_vX12_thick z_wL_207 (gX12_thick hst fu s386 a2 x389 x391) rfl rfl (by decide) rfl rfl ⟨by decide, by decide, by omega, by omega, Nat.le_of_ble_eq_true rfl⟩ rfl (fun x393 s392 => ?_)
  refine G_istore (lv' := [vA K.2.2.2.2.2.1, vR a1, vR a2, vR a3, vI a4, vI x387, vI x393, vU]) (pc := 1823) dL_law_1823 rfl ?_
  refine G_aload_n (x := a2) (pc := 1825) dL_law_1825 rfl ?_
  refine G_callVI (as := []) (st := []) (c := 12) (bc2 := (4 * F)) (bs2 := (24 * F)) (pc := 1826) dL_law_1826 z_mX12_thrown z_vX12_thrown z_wL_115 (gX12_thrown hst fu s392 a2) rfl rfl (by decide) rfl rfl ⟨by decide, by decide, by omega, by omega, Nat.le_of_ble_eq_true rfl⟩ rfl (fun x395 s394 => ?_)
  refine G_iload (x := x387) (pc := 1829) dL_law_1829 rfl ?_
  refine G_icmp_eq (tgt := 1836) (pc := 1831) dL_law_1831 ?_ ?_
  · refine G_iload (x := x387) (pc := 1836) dL_law_1836 rfl ?_
    refine G_if_ne (tgt := 1853) (pc := 1838) dL_law_1838 ?_ ?_
    · refine G_less (bc2 := (4 * F)) (bs2 := (24 * F)) (by omega) (by omega) ?_
      refine G_fg (lv2 := [vA K.2.2.2.2.2.1, vR a1, vR a2, vR a3, vI a4, vU, vU, vU]) ⟨Or.inr rfl, Or.inr rfl, Or.inr rfl, Or.inr rfl, Or.inr rfl, Or.inl rfl, Or.inl rfl, Or.inl rfl, trivial⟩ ?_
      exact gL_law_J1853 hst fu F s394 a1 a2 a3 a4 _ _ (fun w v4 => hr w v4) hk
    · refine G_aload_n (x := a3) (pc := 1841) dL_law_1841 rfl ?_
      refine G_iconst (pc := 1842) dL_law_1842 ?_
      refine G_lald (pc := 1843) dL_law_1843 (fun x396 => ?_)
      refine G_iload (x := x393) (pc := 1844) dL_law_1844 rfl ?_
      refine G_i2l (pc := 1846) dL_law_1846 ?_
      refine G_lcmp (pc := 1847) dL_law_1847 (fun x397 => ?_)
      refine G_if_eq (tgt := 1853) (pc := 1848) dL_law_1848 ?_ ?_
      · refine G_less (bc2 := (4 * F)) (bs2 := (24 * F)) (by omega) (by omega) ?_
        refine G_fg (lv2 := [vA K.2.2.2.2.2.1, vR a1, vR a2, vR a3, vI a4, vU, vU, vU]) ⟨Or.inr rfl, Or.inr rfl, Or.inr rfl, Or.inr rfl, Or.inr rfl, Or.inl rfl, Or.inl rfl, Or.inl rfl, trivial⟩ ?_
        exact gL_law_J1853 hst fu F s394 a1 a2 a3 a4 _ _ (fun w v4 => hr w v4) hk
      · refine G_iconst (pc := 1851) dL_law_1851 ?_
        exact G_zret (pc := 1852) dL_law_1852
  · refine G_iconst (pc := 1834) dL_law_1834 ?_
    exact G_zret (pc := 1835) dL_law_1835
def fL_law_J1909 (fu L : Nat) (xs : Nat → Int32) (s : z_M) (a1 : Int) (a2 : Int) (a3 : Int) (a4 : Int) (r : z_M → Int → z_O) (k : z_M → z_O) : z_O := fL_law_J2073 fu L xs s a1 a2 a3 a4 (fun w v4 => r w v4) k
theorem gL_law_J1909 {l : Launch} {K : z_K} (hst : l.stackTraces = false) (fu F : Nat) (s : z_M) (a1 : Int) (a2 : Int) (a3 : Int) (a4 : Int) (r : z_M → Int → z_O) (k : z_M → z_O) (hr : ∀ (s : z_M) (a4 : Int), G l K mL_law 13 295 (4 * F) (24 * F) 23 [vA K.2.2.2.2.2.1, vR a1, vR a2, vR a3, vI a4, vU, vU, vU] [] s (r s a4)) (hk : ∀ (s : z_M), G l K mL_law 13 295 0 0 2079 [vA K.2.2.2.2.2.1, vU, vU, vU, vU, vU, vU, vU] [] s (k s)) : G l K mL_law 13 295 (4 * F) (24 * F) 1909 [vA K.2.2.2.2.2.1, vR a1, vR a2, vR a3, vI a4, vU, vU, vU] [] s (fL_law_J1909 fu K.2.2.2.2.2.2.1 K.2.2.2.2.2.2.2 s a1 a2 a3 a4 r k) := by
  unfold fL_law_J1909
  refine G_goto (tgt := 2073) (pc := 1909) dL_law_1909 ?_
  refine G_less (bc2 := (4 * F)) (bs2 := (24 * F)) (by omega) (by omega) ?_
  exact gL_law_J2073 hst fu F s a1 a2 a3 a4 _ _ (fun w v4 => hr w v4) hk
def fL_law_J1856 (fu L : Nat) (xs : Nat → Int32) (s : z_M) (a1 : Int) (a2 : Int) (a3 : Int) (a4 : Int) (r : z_M → Int → z_O) (k : z_M → z_O) : z_O := z_let (z_w (a4 + 1)) (fun x398 => if 0 ≤ x398 ∧ x398 < (L : Int) then z_let (Int32.toInt (xs (Int.toNat x398))) (fun x399 => z_bI (fL_pages fu s a1 x399 a3) (fun x401 s400 => z_let (z_w (a4 + 1)) (fun x402 => if 0 ≤ x402 ∧ x402 < (L : Int) then z_let (Int32.toInt (xs (Int.toNat x402))) (fun x403 => if z_ob a2 12 then z_bI (fX12_pages fu s400 a2 x403) (fun x405 s404 => if z_ob a2 12 then z_bI (fX12_thrown fu s404 a2) (fun x407 s406 => if (x407 : Int) = x401 then (if (x401 : Int) ≠ 0 then (fL_law_J1909 fu L xs s406 a1 a2 a3 a4 (fun w v4 => r w v4) k) else (if z_ix a3 101 0 then z_let (s406 a3 0) (fun x408 => z_let (z_cmp x408 x405) (fun x409 => if (x409 : Int) = 0 then (fL_law_J1909 fu L xs s406 a1 a2 a3 a4 (fun w v4 => r w v4) k) else (if z_bl 0 then some (vI 0, s406) else none))) else none)) else (if z_bl 0 then some (vI 0, s406) else none)) else none) else none) else none))) else none)
theorem gL_law_J1856 {l : Launch} {K : z_K} (hst : l.stackTraces = false) (fu F : Nat) (s : z_M) (a1 : Int) (a2 : Int) (a3 : Int) (a4 : Int) (r : z_M → Int → z_O) (k : z_M → z_O) (hr : ∀ (s : z_M) (a4 : Int), G l K mL_law 13 295 (4 * F) (24 * F) 23 [vA K.2.2.2.2.2.1, vR a1, vR a2, vR a3, vI a4, vU, vU, vU] [] s (r s a4)) (hk : ∀ (s : z_M), G l K mL_law 13 295 0 0 2079 [vA K.2.2.2.2.2.1, vU, vU, vU, vU, vU, vU, vU] [] s (k s)) : G l K mL_law 13 295 (4 * F + 1) (24 * F + 6) 1856 [vA K.2.2.2.2.2.1, vR a1, vR a2, vR a3, vI a4, vU, vU, vU] [] s (fL_law_J1856 fu K.2.2.2.2.2.2.1 K.2.2.2.2.2.2.2 s a1 a2 a3 a4 r k) := by
  unfold fL_law_J1856
  refine G_aload_n (x := a1) (pc := 1856) dL_law_1856 rfl ?_
  refine G_sload_n (pc := 1857) dL_law_1857 rfl ?_
  refine G_iload (x := a4) (pc := 1858) dL_law_1858 rfl ?_
  refine G_iconst (pc := 1860) dL_law_1860 ?_
  refine G_iadd (pc := 1861) dL_law_1861 (fun x398 => ?_)
  refine G_sald (pc := 1862) dL_law_1862 (fun x399 => ?_)
  refine G_aload_n (x := a3) (pc := 1863) dL_law_1863 rfl ?_
  refine G_callSI (as := [vR a1, vI x399, vR a3]) (st := []) (bc2 := (4 * F)) (bs2 := (24 * F)) (pc := 1864) dL_law_1864 z_mL_pages z_sL_pages z_wL_208 (gL_pages hst fu s a1 x399 a3) rfl rfl ⟨by decide, by decide, by omega, by omega, Nat.le_of_ble_eq_true rfl⟩ rfl (fun x401 s400 => ?_)
  refine G_istore (lv' := [vA K.2.2.2.2.2.1, vR a1, vR a2, vR a3, vI a4, vI x401, vU, vU]) (pc := 1867) dL_law_1867 rfl ?_
  refine G_aload_n (x := a2) (pc := 1869) dL_law_1869 rfl ?_
  refine G_sload_n (pc := 1870) dL_law_1870 rfl ?_
  refine G_iload (x := a4) (pc := 1871) dL_law_1871 rfl ?_
  refine G_iconst (pc := 1873) dL_law_1873 ?_
  refine G_iadd (pc := 1874) dL_law_1874 (fun x402 => ?_)
  refine G_sald (pc := 1875) dL_law_1875 (fun x403 => ?_)
  refine G_callVI (as := [vI x403]) (st := []) (c := 12) (bc2 := (4 * F)) (bs2 := (24 * F)) (pc := 1876) dL_law_1876 z_mX12_pages z_vX12_pages z_wL_210 (gX12_pages hst fu s400 a2 x403) rfl rfl (by decide) rfl rfl ⟨by decide, by decide, by omega, by omega, Nat.le_of_ble_eq_true rfl⟩ rfl (fun x405 s404 => ?_)
  refine G_istore (lv' := [vA K.2.2.2.2.2.1, vR a1, vR a2, vR a3, vI a4, vI x401, vI x405, vU]) (pc := 1879) dL_law_1879 rfl ?_
  refine G_aload_n (x := a2) (pc := 1881) dL_law_1881 rfl ?_
  refine G_callVI (as := []) (st := []) (c := 12) (bc2 := (4 * F)) (bs2 := (24 * F)) (pc := 1882) dL_law_1882 z_mX12_thrown z_vX12_thrown z_wL_115 (gX12_thrown hst fu s404 a2) rfl rfl (by decide) rfl rfl ⟨by decide, by decide, by omega, by omega, Nat.le_of_ble_eq_true rfl⟩ rfl (fun x407 s406 => ?_)
  refine G_iload (x := x401) (pc := 1885) dL_law_1885 rfl ?_
  refine G_icmp_eq (tgt := 1892) (pc := 1887) dL_law_1887 ?_ ?_
  · refine G_iload (x := x401) (pc := 1892) dL_law_1892 rfl ?_
    refine G_if_ne (tgt := 1909) (pc := 1894) dL_law_1894 ?_ ?_
    · refine G_less (bc2 := (4 * F)) (bs2 := (24 * F)) (by omega) (by omega) ?_
      refine G_fg (lv2 := [vA K.2.2.2.2.2.1, vR a1, vR a2, vR a3, vI a4, vU, vU, vU]) ⟨Or.inr rfl, Or.inr rfl, Or.inr rfl, Or.inr rfl, Or.inr rfl, Or.inl rfl, Or.inl rfl, Or.inl rfl, trivial⟩ ?_
      exact gL_law_J1909 hst fu F s406 a1 a2 a3 a4 _ _ (fun w v4 => hr w v4) hk
    · refine G_aload_n (x := a3) (pc := 1897) dL_law_1897 rfl ?_
      refine G_iconst (pc := 1898) dL_law_1898 ?_
      refine G_lald (pc := 1899) dL_law_1899 (fun x408 => ?_)
      refine G_iload (x := x405) (pc := 1900) dL_law_1900 rfl ?_
      refine G_i2l (pc := 1902) dL_law_1902 ?_
      refine G_lcmp (pc := 1903) dL_law_1903 (fun x409 => ?_)
      refine G_if_eq (tgt := 1909) (pc := 1904) dL_law_1904 ?_ ?_
      · refine G_less (bc2 := (4 * F)) (bs2 := (24 * F)) (by omega) (by omega) ?_
        refine G_fg (lv2 := [vA K.2.2.2.2.2.1, vR a1, vR a2, vR a3, vI a4, vU, vU, vU]) ⟨Or.inr rfl, Or.inr rfl, Or.inr rfl, Or.inr rfl, Or.inr rfl, Or.inl rfl, Or.inl rfl, Or.inl rfl, trivial⟩ ?_
        exact gL_law_J1909 hst fu F s406 a1 a2 a3 a4 _ _ (fun w v4 => hr w v4) hk
      · refine G_iconst (pc := 1907) dL_law_1907 ?_
        exact G_zret (pc := 1908) dL_law_1908
  · refine G_iconst (pc := 1890) dL_law_1890 ?_
    exact G_zret (pc := 1891) dL_law_1891
def fL_law_J1989 (fu L : Nat) (xs : Nat → Int32) (s : z_M) (a1 : Int) (a2 : Int) (a3 : Int) (a4 : Int) (r : z_M → Int → z_O) (k : z_M → z_O) : z_O := fL_law_J2073 fu L xs s a1 a2 a3 a4 (fun w v4 => r w v4) k
theorem gL_law_J1989 {l : Launch} {K : z_K} (hst : l.stackTraces = false) (fu F : Nat) (s : z_M) (a1 : Int) (a2 : Int) (a3 : Int) (a4 : Int) (r : z_M → Int → z_O) (k : z_M → z_O) (hr : ∀ (s : z_M) (a4 : Int), G l K mL_law 13 295 (4 * F) (24 * F) 23 [vA K.2.2.2.2.2.1, vR a1, vR a2, vR a3, vI a4, vU, vU, vU] [] s (r s a4)) (hk : ∀ (s : z_M), G l K mL_law 13 295 0 0 2079 [vA K.2.2.2.2.2.1, vU, vU, vU, vU, vU, vU, vU] [] s (k s)) : G l K mL_law 13 295 (4 * F) (24 * F) 1989 [vA K.2.2.2.2.2.1, vR a1, vR a2, vR a3, vI a4, vU, vU, vU] [] s (fL_law_J1989 fu K.2.2.2.2.2.2.1 K.2.2.2.2.2.2.2 s a1 a2 a3 a4 r k) := by
  unfold fL_law_J1989
  refine G_goto (tgt := 2073) (pc := 1989) dL_law_1989 ?_
  refine G_less (bc2 := (4 * F)) (bs2 := (24 * F)) (by omega) (by omega) ?_
  exact gL_law_J2073 hst fu F s a1 a2 a3 a4 _ _ (fun w v4 => hr w v4) hk
def fL_law_J1912 (fu L : Nat) (xs : Nat → Int32) (s : z_M) (a1 : Int) (a2 : Int) (a3 : Int) (a4 : Int) (r : z_M → Int → z_O) (k : z_M → z_O) : z_O := z_let (z_w (a4 + 1)) (fun x410 => if 0 ≤ x410 ∧ x410 < (L : Int) then z_let (Int32.toInt (xs (Int.toNat x410))) (fun x411 => z_let (z_w (a4 + 2)) (fun x412 => if 0 ≤ x412 ∧ x412 < (L : Int) then z_let (Int32.toInt (xs (Int.toNat x412))) (fun x413 => z_let (z_w (a4 + 3)) (fun x414 => if 0 ≤ x414 ∧ x414 < (L : Int) then z_let (Int32.toInt (xs (Int.toNat x414))) (fun x415 => z_bI (fL_page fu s a1 x411 x413 x415 a3) (fun x417 s416 => z_let (z_w (a4 + 1)) (fun x418 => if 0 ≤ x418 ∧ x418 < (L : Int) then z_let (Int32.toInt (xs (Int.toNat x418))) (fun x419 => z_let (z_w (a4 + 2)) (fun x420 => if 0 ≤ x420 ∧ x420 < (L : Int) then z_let (Int32.toInt (xs (Int.toNat x420))) (fun x421 => z_let (z_w (a4 + 3)) (fun x422 => if 0 ≤ x422 ∧ x422 < (L : Int) then z_let (Int32.toInt (xs (Int.toNat x422))) (fun x423 => if z_ob a2 12 then z_bI (fX12_page fu s416 a2 x419 x421 x423) (fun x425 s424 => if z_ob a2 12 then z_bI (fX12_thrown fu s424 a2) (fun x427 s426 => if (x427 : Int) = x417 then (if (x417 : Int) ≠ 0 then (fL_law_J1989 fu L xs s426 a1 a2 a3 a4 (fun w v4 => r w v4) k) else (if z_ix a3 101 0 then z_let (s426 a3 0) (fun x428 => z_let (z_cmp x428 x425) (fun x429 => if (x429 : Int) = 0 then (fL_law_J1989 fu L xs s426 a1 a2 a3 a4 (fun w v4 => r w v4) k) else (if z_bl 0 then some (vI 0, s426) else none))) else none)) else (if z_bl 0 then some (vI 0, s426) else none)) else none) else none) else none)) else none)) else none))) else none)) else none)) else none)
theorem gL_law_J1912 {l : Launch} {K : z_K} (hst : l.stackTraces = false) (fu F : Nat) (s : z_M) (a1 : Int) (a2 : Int) (a3 : Int) (a4 : Int) (r : z_M → Int → z_O) (k : z_M → z_O) (hr : ∀ (s : z_M) (a4 : Int), G l K mL_law 13 295 (4 * F) (24 * F) 23 [vA K.2.2.2.2.2.1, vR a1, vR a2, vR a3, vI a4, vU, vU, vU] [] s (r s a4)) (hk : ∀ (s : z_M), G l K mL_law 13 295 0 0 2079 [vA K.2.2.2.2.2.1, vU, vU, vU, vU, vU, vU, vU] [] s (k s)) : G l K mL_law 13 295 (4 * F + 2) (24 * F + 12) 1912 [vA K.2.2.2.2.2.1, vR a1, vR a2, vR a3, vI a4, vU, vU, vU] [] s (fL_law_J1912 fu K.2.2.2.2.2.2.1 K.2.2.2.2.2.2.2 s a1 a2 a3 a4 r k) := by
  unfold fL_law_J1912
  refine G_aload_n (x := a1) (pc := 1912) dL_law_1912 rfl ?_
  refine G_sload_n (pc := 1913) dL_law_1913 rfl ?_
  refine G_iload (x := a4) (pc := 1914) dL_law_1914 rfl ?_
  refine G_iconst (pc := 1916) dL_law_1916 ?_
  refine G_iadd (pc := 1917) dL_law_1917 (fun x410 => ?_)
  refine G_sald (pc := 1918) dL_law_1918 (fun x411 => ?_)
  refine G_sload_n (pc := 1919) dL_law_1919 rfl ?_
  refine G_iload (x := a4) (pc := 1920) dL_law_1920 rfl ?_
  refine G_iconst (pc := 1922) dL_law_1922 ?_
  refine G_iadd (pc := 1923) dL_law_1923 (fun x412 => ?_)
  refine G_sald (pc := 1924) dL_law_1924 (fun x413 => ?_)
  refine G_sload_n (pc := 1925) dL_law_1925 rfl ?_
  refine G_iload (x := a4) (pc := 1926) dL_law_1926 rfl ?_
  refine G_iconst (pc := 1928) dL_law_1928 ?_
  refine G_iadd (pc := 1929) dL_law_1929 (fun x414 => ?_)
  refine G_sald (pc := 1930) dL_law_1930 (fun x415 => ?_)
  refine G_aload_n (x := a3) (pc := 1931) dL_law_1931 rfl ?_
  refine G_callSI (as := [vR a1, vI x411, vI x413, vI x415, vR a3]) (st := []) (bc2 := (4 * F)) (bs2 := (24 * F)) (pc := 1932) dL_law_1932 z_mL_page z_sL_page z_wL_211 (gL_page hst fu s a1 x411 x413 x415 a3) rfl rfl ⟨by decide, by decide, by omega, by omega, Nat.le_of_ble_eq_true rfl⟩ rfl (fun x417 s416 => ?_)
  refine G_istore (lv' := [vA K.2.2.2.2.2.1, vR a1, vR a2, vR a3, vI a4, vI x417, vU, vU]) (pc := 1935) dL_law_1935 rfl ?_
  refine G_aload_n (x := a2) (pc := 1937) dL_law_1937 rfl ?_
  refine G_sload_n (pc := 1938) dL_law_1938 rfl ?_
  refine G_iload (x := a4) (pc := 1939) dL_law_1939 rfl ?_
  refine G_iconst (pc := 1941) dL_law_1941 ?_
  refine G_iadd (pc := 1942) dL_law_1942 (fun x418 => ?_)
  refine G_sald (pc := 1943) dL_law_1943 (fun x419 => ?_)
  refine G_sload_n (pc := 1944) dL_law_1944 rfl ?_
  refine G_iload (x := a4) (pc := 1945) dL_law_1945 rfl ?_
  refine G_iconst (pc := 1947) dL_law_1947 ?_
  refine G_iadd (pc := 1948) dL_law_1948 (fun x420 => ?_)
  refine G_sald (pc := 1949) dL_law_1949 (fun x421 => ?_)
  refine G_sload_n (pc := 1950) dL_law_1950 rfl ?_
  refine G_iload (x := a4) (pc := 1951) dL_law_1951 rfl ?_
  refine G_iconst (pc := 1953) dL_law_1953 ?_
  refine G_iadd (pc := 1954) dL_law_1954 (fun x422 => ?_)
  refine G_sald (pc := 1955) dL_law_1955 (fun x423 => ?_)
  refine G_callVI (as := [vI x419, vI x421, vI x423]) (st := []) (c := 12) (bc2 := (4 * F)) (bs2 := (24 * F)) (pc := 1956) dL_law_1956 z_mX12_page z_vX12_page z_wL_213 (gX12_page hst fu s416 a2 x419 x421 x423) rfl rfl (by decide) rfl rfl ⟨by decide, by decide, by omega, by omega, Nat.le_of_ble_eq_true rfl⟩ rfl (fun x425 s424 => ?_)
  refine G_istore (lv' := [vA K.2.2.2.2.2.1, vR a1, vR a2, vR a3, vI a4, vI x417, vI x425, vU]) (pc := 1959) dL_law_1959 rfl ?_
  refine G_aload_n (x := a2) (pc := 1961) dL_law_1961 rfl ?_
  refine G_callVI (as := []) (st := []) (c := 12) (bc2 := (4 * F)) (bs2 := (24 * F)) (pc := 1962) dL_law_1962 z_mX12_thrown z_vX12_thrown z_wL_115 (gX12_thrown hst fu s424 a2) rfl rfl (by decide) rfl rfl ⟨by decide, by decide, by omega, by omega, Nat.le_of_ble_eq_true rfl⟩ rfl (fun x427 s426 => ?_)
  refine G_iload (x := x417) (pc := 1965) dL_law_1965 rfl ?_
  refine G_icmp_eq (tgt := 1972) (pc := 1967) dL_law_1967 ?_ ?_
  · refine G_iload (x := x417) (pc := 1972) dL_law_1972 rfl ?_
    refine G_if_ne (tgt := 1989) (pc := 1974) dL_law_1974 ?_ ?_
    · refine G_less (bc2 := (4 * F)) (bs2 := (24 * F)) (by omega) (by omega) ?_
      refine G_fg (lv2 := [vA K.2.2.2.2.2.1, vR a1, vR a2, vR a3, vI a4, vU, vU, vU]) ⟨Or.inr rfl, Or.inr rfl, Or.inr rfl, Or.inr rfl, Or.inr rfl, Or.inl rfl, Or.inl rfl, Or.inl rfl, trivial⟩ ?_
      exact gL_law_J1989 hst fu F s426 a1 a2 a3 a4 _ _ (fun w v4 => hr w v4) hk
    · refine G_aload_n (x := a3) (pc := 1977) dL_law_1977 rfl ?_
      refine G_iconst (pc := 1978) dL_law_1978 ?_
      refine G_lald (pc := 1979) dL_law_1979 (fun x428 => ?_)
      refine G_iload (x := x425) (pc := 1980) dL_law_1980 rfl ?_
      refine G_i2l (pc := 1982) dL_law_1982 ?_
      refine G_lcmp (pc := 1983) dL_law_1983 (fun x429 => ?_)
      refine G_if_eq (tgt := 1989) (pc := 1984) dL_law_1984 ?_ ?_
      · refine G_less (bc2 := (4 * F)) (bs2 := (24 * F)) (by omega) (by omega) ?_
        refine G_fg (lv2 := [vA K.2.2.2.2.2.1, vR a1, vR a2, vR a3, vI a4, vU, vU, vU]) ⟨Or.inr rfl, Or.inr rfl, Or.inr rfl, Or.inr rfl, Or.inr rfl, Or.inl rfl, Or.inl rfl, Or.inl rfl, trivial⟩ ?_
        exact gL_law_J1989 hst fu F s426 a1 a2 a3 a4 _ _ (fun w v4 => hr w v4) hk
      · refine G_iconst (pc := 1987) dL_law_1987 ?_
        exact G_zret (pc := 1988) dL_law_1988
  · refine G_iconst (pc := 1970) dL_law_1970 ?_
    exact G_zret (pc := 1971) dL_law_1971
def fL_law_J2045 (fu L : Nat) (xs : Nat → Int32) (s : z_M) (a1 : Int) (a2 : Int) (a3 : Int) (a4 : Int) (r : z_M → Int → z_O) (k : z_M → z_O) : z_O := fL_law_J2073 fu L xs s a1 a2 a3 a4 (fun w v4 => r w v4) k
theorem gL_law_J2045 {l : Launch} {K : z_K} (hst : l.stackTraces = false) (fu F : Nat) (s : z_M) (a1 : Int) (a2 : Int) (a3 : Int) (a4 : Int) (r : z_M → Int → z_O) (k : z_M → z_O) (hr : ∀ (s : z_M) (a4 : Int), G l K mL_law 13 295 (4 * F) (24 * F) 23 [vA K.2.2.2.2.2.1, vR a1, vR a2, vR a3, vI a4, vU, vU, vU] [] s (r s a4)) (hk : ∀ (s : z_M), G l K mL_law 13 295 0 0 2079 [vA K.2.2.2.2.2.1, vU, vU, vU, vU, vU, vU, vU] [] s (k s)) : G l K mL_law 13 295 (4 * F) (24 * F) 2045 [vA K.2.2.2.2.2.1, vR a1, vR a2, vR a3, vI a4, vU, vU, vU] [] s (fL_law_J2045 fu K.2.2.2.2.2.2.1 K.2.2.2.2.2.2.2 s a1 a2 a3 a4 r k) := by
  unfold fL_law_J2045
  refine G_goto (tgt := 2073) (pc := 2045) dL_law_2045 ?_
  refine G_less (bc2 := (4 * F)) (bs2 := (24 * F)) (by omega) (by omega) ?_
  exact gL_law_J2073 hst fu F s a1 a2 a3 a4 _ _ (fun w v4 => hr w v4) hk
def fL_law_J1992 (fu L : Nat) (xs : Nat → Int32) (s : z_M) (a1 : Int) (a2 : Int) (a3 : Int) (a4 : Int) (r : z_M → Int → z_O) (k : z_M → z_O) : z_O := z_let (z_w (a4 + 1)) (fun x430 => if 0 ≤ x430 ∧ x430 < (L : Int) then z_let (Int32.toInt (xs (Int.toNat x430))) (fun x431 => z_bI (fL_narrow fu s a1 x431 a3) (fun x433 s432 => z_let (z_w (a4 + 1)) (fun x434 => if 0 ≤ x434 ∧ x434 < (L : Int) then z_let (Int32.toInt (xs (Int.toNat x434))) (fun x435 => if z_ob a2 12 then z_bI (fX12_narrow fu s432 a2 x435) (fun x437 s436 => if z_ob a2 12 then z_bI (fX12_thrown fu s436 a2) (fun x439 s438 => if (x439 : Int) = x433 then (if (x433 : Int) ≠ 0 then (fL_law_J2045 fu L xs s438 a1 a2 a3 a4 (fun w v4 => r w v4) k) else (if z_ix a3 101 0 then z_let (s438 a3 0) (fun x440 => z_let (z_cmp x440 x437) (fun x441 => if (x441 : Int) = 0 then (fL_law_J2045 fu L xs s438 a1 a2 a3 a4 (fun w v4 => r w v4) k) else (if z_bl 0 then some (vI 0, s438) else none))) else none)) else (if z_bl 0 then some (vI 0, s438) else none)) else none) else none) else none))) else none)
theorem gL_law_J1992 {l : Launch} {K : z_K} (hst : l.stackTraces = false) (fu F : Nat) (s : z_M) (a1 : Int) (a2 : Int) (a3 : Int) (a4 : Int) (r : z_M → Int → z_O) (k : z_M → z_O) (hr : ∀ (s : z_M) (a4 : Int), G l K mL_law 13 295 (4 * F) (24 * F) 23 [vA K.2.2.2.2.2.1, vR a1, vR a2, vR a3, vI a4, vU, vU, vU] [] s (r s a4)) (hk : ∀ (s : z_M), G l K mL_law 13 295 0 0 2079 [vA K.2.2.2.2.2.1, vU, vU, vU, vU, vU, vU, vU] [] s (k s)) : G l K mL_law 13 295 (4 * F + 1) (24 * F + 6) 1992 [vA K.2.2.2.2.2.1, vR a1, vR a2, vR a3, vI a4, vU, vU, vU] [] s (fL_law_J1992 fu K.2.2.2.2.2.2.1 K.2.2.2.2.2.2.2 s a1 a2 a3 a4 r k) := by
  unfold fL_law_J1992
  refine G_aload_n (x := a1) (pc := 1992) dL_law_1992 rfl ?_
  refine G_sload_n (pc := 1993) dL_law_1993 rfl ?_
  refine G_iload (x := a4) (pc := 1994) dL_law_1994 rfl ?_
  refine G_iconst (pc := 1996) dL_law_1996 ?_
  refine G_iadd (pc := 1997) dL_law_1997 (fun x430 => ?_)
  refine G_sald (pc := 1998) dL_law_1998 (fun x431 => ?_)
  refine G_aload_n (x := a3) (pc := 1999) dL_law_1999 rfl ?_
  refine G_callSI (as := [vR a1, vI x431, vR a3]) (st := []) (bc2 := (4 * F)) (bs2 := (24 * F)) (pc := 2000) dL_law_2000 z_mL_narrow z_sL_narrow z_wL_214 (gL_narrow hst fu s a1 x431 a3) rfl rfl ⟨by decide, by decide, by omega, by omega, Nat.le_of_ble_eq_true rfl⟩ rfl (fun x433 s432 => ?_)
  refine G_istore (lv' := [vA K.2.2.2.2.2.1, vR a1, vR a2, vR a3, vI a4, vI x433, vU, vU]) (pc := 2003) dL_law_2003 rfl ?_
  refine G_aload_n (x := a2) (pc := 2005) dL_law_2005 rfl ?_
  refine G_sload_n (pc := 2006) dL_law_2006 rfl ?_
  refine G_iload (x := a4) (pc := 2007) dL_law_2007 rfl ?_
  refine G_iconst (pc := 2009) dL_law_2009 ?_
  refine G_iadd (pc := 2010) dL_law_2010 (fun x434 => ?_)
  refine G_sald (pc := 2011) dL_law_2011 (fun x435 => ?_)
  refine G_callVI (as := [vI x435]) (st := []) (c := 12) (bc2 := (4 * F)) (bs2 := (24 * F)) (pc := 2012) dL_law_2012 z_mX12_narrow z_vX12_narrow z_wL_216 (gX12_narrow hst fu s432 a2 x435) rfl rfl (by decide) rfl rfl ⟨by decide, by decide, by omega, by omega, Nat.le_of_ble_eq_true rfl⟩ rfl (fun x437 s436 => ?_)
  refine G_istore (lv' := [vA K.2.2.2.2.2.1, vR a1, vR a2, vR a3, vI a4, vI x433, vI x437, vU]) (pc := 2015) dL_law_2015 rfl ?_
  refine G_aload_n (x := a2) (pc := 2017) dL_law_2017 rfl ?_
  refine G_callVI (as := []) (st := []) (c := 12) (bc2 := (4 * F)) (bs2 := (24 * F)) (pc := 2018) dL_law_2018 z_mX12_thrown z_vX12_thrown z_wL_115 (gX12_thrown hst fu s436 a2) rfl rfl (by decide) rfl rfl ⟨by decide, by decide, by omega, by omega, Nat.le_of_ble_eq_true rfl⟩ rfl (fun x439 s438 => ?_)
  refine G_iload (x := x433) (pc := 2021) dL_law_2021 rfl ?_
  refine G_icmp_eq (tgt := 2028) (pc := 2023) dL_law_2023 ?_ ?_
  · refine G_iload (x := x433) (pc := 2028) dL_law_2028 rfl ?_
    refine G_if_ne (tgt := 2045) (pc := 2030) dL_law_2030 ?_ ?_
    · refine G_less (bc2 := (4 * F)) (bs2 := (24 * F)) (by omega) (by omega) ?_
      refine G_fg (lv2 := [vA K.2.2.2.2.2.1, vR a1, vR a2, vR a3, vI a4, vU, vU, vU]) ⟨Or.inr rfl, Or.inr rfl, Or.inr rfl, Or.inr rfl, Or.inr rfl, Or.inl rfl, Or.inl rfl, Or.inl rfl, trivial⟩ ?_
      exact gL_law_J2045 hst fu F s438 a1 a2 a3 a4 _ _ (fun w v4 => hr w v4) hk
    · refine G_aload_n (x := a3) (pc := 2033) dL_law_2033 rfl ?_
      refine G_iconst (pc := 2034) dL_law_2034 ?_
      refine G_lald (pc := 2035) dL_law_2035 (fun x440 => ?_)
      refine G_iload (x := x437) (pc := 2036) dL_law_2036 rfl ?_
      refine G_i2l (pc := 2038) dL_law_2038 ?_
      refine G_lcmp (pc := 2039) dL_law_2039 (fun x441 => ?_)
      refine G_if_eq (tgt := 2045) (pc := 2040) dL_law_2040 ?_ ?_
      · refine G_less (bc2 := (4 * F)) (bs2 := (24 * F)) (by omega) (by omega) ?_
        refine G_fg (lv2 := [vA K.2.2.2.2.2.1, vR a1, vR a2, vR a3, vI a4, vU, vU, vU]) ⟨Or.inr rfl, Or.inr rfl, Or.inr rfl, Or.inr rfl, Or.inr rfl, Or.inl rfl, Or.inl rfl, Or.inl rfl, trivial⟩ ?_
        exact gL_law_J2045 hst fu F s438 a1 a2 a3 a4 _ _ (fun w v4 => hr w v4) hk
      · refine G_iconst (pc := 2043) dL_law_2043 ?_
        exact G_zret (pc := 2044) dL_law_2044
  · refine G_iconst (pc := 2026) dL_law_2026 ?_
    exact G_zret (pc := 2027) dL_law_2027
def fL_law_J2048 (fu L : Nat) (xs : Nat → Int32) (s : z_M) (a1 : Int) (a2 : Int) (a3 : Int) (a4 : Int) (r : z_M → Int → z_O) (k : z_M → z_O) : z_O := z_let (z_w (a4 + 1)) (fun x442 => if 0 ≤ x442 ∧ x442 < (L : Int) then z_let (Int32.toInt (xs (Int.toNat x442))) (fun x443 => if z_ob a1 11 then z_bI (fX11_status fu s a1 x443) (fun x445 s444 => z_let (z_w (a4 + 1)) (fun x446 => if 0 ≤ x446 ∧ x446 < (L : Int) then z_let (Int32.toInt (xs (Int.toNat x446))) (fun x447 => if z_ob a2 12 then z_bI (fX12_status fu s444 a2 x447) (fun x449 s448 => if (x445 : Int) = x449 then (fL_law_J2073 fu L xs s448 a1 a2 a3 a4 (fun w v4 => r w v4) k) else (if z_bl 0 then some (vI 0, s448) else none)) else none) else none)) else none) else none)
theorem gL_law_J2048 {l : Launch} {K : z_K} (hst : l.stackTraces = false) (fu F : Nat) (s : z_M) (a1 : Int) (a2 : Int) (a3 : Int) (a4 : Int) (r : z_M → Int → z_O) (k : z_M → z_O) (hr : ∀ (s : z_M) (a4 : Int), G l K mL_law 13 295 (4 * F) (24 * F) 23 [vA K.2.2.2.2.2.1, vR a1, vR a2, vR a3, vI a4, vU, vU, vU] [] s (r s a4)) (hk : ∀ (s : z_M), G l K mL_law 13 295 0 0 2079 [vA K.2.2.2.2.2.1, vU, vU, vU, vU, vU, vU, vU] [] s (k s)) : G l K mL_law 13 295 (4 * F) (24 * F) 2048 [vA K.2.2.2.2.2.1, vR a1, vR a2, vR a3, vI a4, vU, vU, vU] [] s (fL_law_J2048 fu K.2.2.2.2.2.2.1 K.2.2.2.2.2.2.2 s a1 a2 a3 a4 r k) := by
  unfold fL_law_J2048
  refine G_aload_n (x := a1) (pc := 2048) dL_law_2048 rfl ?_
  refine G_sload_n (pc := 2049) dL_law_2049 rfl ?_
  refine G_iload (x := a4) (pc := 2050) dL_law_2050 rfl ?_
  refine G_iconst (pc := 2052) dL_law_2052 ?_
  refine G_iadd (pc := 2053) dL_law_2053 (fun x442 => ?_)
  refine G_sald (pc := 2054) dL_law_2054 (fun x443 => ?_)
  refine G_callVI (as := [vI x443]) (st := []) (c := 11) (bc2 := (4 * F)) (bs2 := (24 * F)) (pc := 2055) dL_law_2055 z_mX11_status z_vX11_status z_wL_217 (gX11_status hst fu s a1 x443) rfl rfl (by decide) rfl rfl ⟨by decide, by decide, by omega, by omega, Nat.le_of_ble_eq_true rfl⟩ rfl (fun x445 s444 => ?_)
  refine G_aload_n (x := a2) (pc := 2058) dL_law_2058 rfl ?_
  refine G_sload_n (pc := 2059) dL_law_2059 rfl ?_
  refine G_iload (x := a4) (pc := 2060) dL_law_2060 rfl ?_
  refine G_iconst (pc := 2062) dL_law_2062 ?_
  refine G_iadd (pc := 2063) dL_law_2063 (fun x446 => ?_)
  refine G_sald (pc := 2064) dL_law_2064 (fun x447 => ?_)
  refine G_callVI (as := [vI x447]) (st := [vI x445]) (c := 12) (bc2 := (4 * F)) (bs2 := (24 * F)) (pc := 2065) dL_law_2065 z_mX12_status z_vX12_status z_wL_220 (gX12_status hst fu s444 a2 x447) rfl rfl (by decide) rfl rfl ⟨by decide, by decide, by omega, by omega, Nat.le_of_ble_eq_true rfl⟩ rfl (fun x449 s448 => ?_)
  refine G_icmp_eq (tgt := 2073) (pc := 2068) dL_law_2068 ?_ ?_
  · refine G_less (bc2 := (4 * F)) (bs2 := (24 * F)) (by omega) (by omega) ?_
    exact gL_law_J2073 hst fu F s448 a1 a2 a3 a4 _ _ (fun w v4 => hr w v4) hk
  · refine G_iconst (pc := 2071) dL_law_2071 ?_
    exact G_zret (pc := 2072) dL_law_2072
def fL_law_L23 (fu L : Nat) (xs : Nat → Int32) (a1 : Int) (a2 : Int) (a3 : Int) : Nat → z_M → Int → (z_M → z_O) → z_O
  | 0, _, _, _ => none
  | F + 1, s, a4, k => z_let (z_w ((L : Int) - 6)) (fun x1 => if (x1 : Int) < a4 then (k s) else (if 0 ≤ a4 ∧ a4 < (L : Int) then z_let (Int32.toInt (xs (Int.toNat a4))) (fun x2 => z_let (z_and x2 63) (fun x3 => if x3 = (0 : Int) then (fL_law_J188 fu L xs s a1 a2 a3 a4 (fun w v4 => fL_law_L23 fu L xs a1 a2 a3 F w v4 k) k) else (if x3 = (1 : Int) then (fL_law_J261 fu L xs s a1 a2 a3 a4 (fun w v4 => fL_law_L23 fu L xs a1 a2 a3 F w v4 k) k) else (if x3 = (2 : Int) then (fL_law_J317 fu L xs s a1 a2 a3 a4 (fun w v4 => fL_law_L23 fu L xs a1 a2 a3 F w v4 k) k) else (if x3 = (3 : Int) then (fL_law_J373 fu L xs s a1 a2 a3 a4 (fun w v4 => fL_law_L23 fu L xs a1 a2 a3 F w v4 k) k) else (if x3 = (4 : Int) then (fL_law_J386 fu L xs s a1 a2 a3 a4 (fun w v4 => fL_law_L23 fu L xs a1 a2 a3 F w v4 k) k) else (if x3 = (5 : Int) then (fL_law_J454 fu L xs s a1 a2 a3 a4 (fun w v4 => fL_law_L23 fu L xs a1 a2 a3 F w v4 k) k) else (if x3 = (6 : Int) then (fL_law_J522 fu L xs s a1 a2 a3 a4 (fun w v4 => fL_law_L23 fu L xs a1 a2 a3 F w v4 k) k) else (if x3 = (7 : Int) then (fL_law_J535 fu L xs s a1 a2 a3 a4 (fun w v4 => fL_law_L23 fu L xs a1 a2 a3 F w v4 k) k) else (if x3 = (8 : Int) then (fL_law_J590 fu L xs s a1 a2 a3 a4 (fun w v4 => fL_law_L23 fu L xs a1 a2 a3 F w v4 k) k) else (if x3 = (9 : Int) then (fL_law_J658 fu L xs s a1 a2 a3 a4 (fun w v4 => fL_law_L23 fu L xs a1 a2 a3 F w v4 k) k) else (if x3 = (10 : Int) then (fL_law_J726 fu L xs s a1 a2 a3 a4 (fun w v4 => fL_law_L23 fu L xs a1 a2 a3 F w v4 k) k) else (if x3 = (11 : Int) then (fL_law_J794 fu L xs s a1 a2 a3 a4 (fun w v4 => fL_law_L23 fu L xs a1 a2 a3 F w v4 k) k) else (if x3 = (12 : Int) then (fL_law_J862 fu L xs s a1 a2 a3 a4 (fun w v4 => fL_law_L23 fu L xs a1 a2 a3 F w v4 k) k) else (if x3 = (13 : Int) then (fL_law_J954 fu L xs s a1 a2 a3 a4 (fun w v4 => fL_law_L23 fu L xs a1 a2 a3 F w v4 k) k) else (if x3 = (14 : Int) then (fL_law_J1022 fu L xs s a1 a2 a3 a4 (fun w v4 => fL_law_L23 fu L xs a1 a2 a3 F w v4 k) k) else (if x3 = (15 : Int) then (fL_law_J1090 fu L xs s a1 a2 a3 a4 (fun w v4 => fL_law_L23 fu L xs a1 a2 a3 F w v4 k) k) else (if x3 = (16 : Int) then (fL_law_J1153 fu L xs s a1 a2 a3 a4 (fun w v4 => fL_law_L23 fu L xs a1 a2 a3 F w v4 k) k) else (if x3 = (17 : Int) then (fL_law_J1221 fu L xs s a1 a2 a3 a4 (fun w v4 => fL_law_L23 fu L xs a1 a2 a3 F w v4 k) k) else (if x3 = (18 : Int) then (fL_law_J1289 fu L xs s a1 a2 a3 a4 (fun w v4 => fL_law_L23 fu L xs a1 a2 a3 F w v4 k) k) else (if x3 = (19 : Int) then (fL_law_J1345 fu L xs s a1 a2 a3 a4 (fun w v4 => fL_law_L23 fu L xs a1 a2 a3 F w v4 k) k) else (if x3 = (20 : Int) then (fL_law_J1359 fu L xs s a1 a2 a3 a4 (fun w v4 => fL_law_L23 fu L xs a1 a2 a3 F w v4 k) k) else (if x3 = (21 : Int) then (fL_law_J1415 fu L xs s a1 a2 a3 a4 (fun w v4 => fL_law_L23 fu L xs a1 a2 a3 F w v4 k) k) else (if x3 = (22 : Int) then (fL_law_J1428 fu L xs s a1 a2 a3 a4 (fun w v4 => fL_law_L23 fu L xs a1 a2 a3 F w v4 k) k) else (if x3 = (23 : Int) then (fL_law_J1484 fu L xs s a1 a2 a3 a4 (fun w v4 => fL_law_L23 fu L xs a1 a2 a3 F w v4 k) k) else (if x3 = (24 : Int) then (fL_law_J1540 fu L xs s a1 a2 a3 a4 (fun w v4 => fL_law_L23 fu L xs a1 a2 a3 F w v4 k) k) else (if x3 = (25 : Int) then (fL_law_J1596 fu L xs s a1 a2 a3 a4 (fun w v4 => fL_law_L23 fu L xs a1 a2 a3 F w v4 k) k) else (if x3 = (26 : Int) then (fL_law_J1676 fu L xs s a1 a2 a3 a4 (fun w v4 => fL_law_L23 fu L xs a1 a2 a3 F w v4 k) k) else (if x3 = (27 : Int) then (fL_law_J1732 fu L xs s a1 a2 a3 a4 (fun w v4 => fL_law_L23 fu L xs a1 a2 a3 F w v4 k) k) else (if x3 = (28 : Int) then (fL_law_J1788 fu L xs s a1 a2 a3 a4 (fun w v4 => fL_law_L23 fu L xs a1 a2 a3 F w v4 k) k) else (if x3 = (29 : Int) then (fL_law_J1856 fu L xs s a1 a2 a3 a4 (fun w v4 => fL_law_L23 fu L xs a1 a2 a3 F w v4 k) k) else (if x3 = (30 : Int) then (fL_law_J1912 fu L xs s a1 a2 a3 a4 (fun w v4 => fL_law_L23 fu L xs a1 a2 a3 F w v4 k) k) else (if x3 = (31 : Int) then (fL_law_J1992 fu L xs s a1 a2 a3 a4 (fun w v4 => fL_law_L23 fu L xs a1 a2 a3 F w v4 k) k) else (if x3 = (32 : Int) then (fL_law_J2048 fu L xs s a1 a2 a3 a4 (fun w v4 => fL_law_L23 fu L xs a1 a2 a3 F w v4 k) k) else (fL_law_J2073 fu L xs s a1 a2 a3 a4 (fun w v4 => fL_law_L23 fu L xs a1 a2 a3 F w v4 k) k))))))))))))))))))))))))))))))))))) else none))
theorem gL_law_L23 {l : Launch} {K : z_K} (hst : l.stackTraces = false) (fu : Nat) (a1 : Int) (a2 : Int) (a3 : Int) (k : z_M → z_O) (hk : ∀ (s : z_M), G l K mL_law 13 295 0 0 2079 [vA K.2.2.2.2.2.1, vU, vU, vU, vU, vU, vU, vU] [] s (k s)) : ∀ (F : Nat) (s : z_M) (a4 : Int), G l K mL_law 13 295 (4 * F) (24 * F) 23 [vA K.2.2.2.2.2.1, vR a1, vR a2, vR a3, vI a4, vU, vU, vU] [] s (fL_law_L23 fu K.2.2.2.2.2.2.1 K.2.2.2.2.2.2.2 a1 a2 a3 F s a4 k) := by
  intro F
  induction F with
  | zero => exact fun s a4 h => absurd rfl h
  | succ F ih =>
    intro s a4
    rw [fL_law_L23]
    refine G_iload (x := a4) (pc := 23) dL_law_23 rfl ?_
    refine G_sload_n (pc := 25) dL_law_25 rfl ?_
    refine G_slen (pc := 26) dL_law_26 ?_
    refine G_bipush (pc := 27) dL_law_27 ?_
    refine G_isub (pc := 29) dL_law_29 (fun x1 => ?_)
    refine G_icmp_gt (tgt := 2079) (pc := 30) dL_law_30 ?_ ?_
    · refine G_less (bc2 := 0) (bs2 := 0) (by omega) (by omega) ?_
      refine G_fg (lv2 := [vA K.2.2.2.2.2.1, vU, vU, vU, vU, vU, vU, vU]) ⟨Or.inr rfl, Or.inl rfl, Or.inl rfl, Or.inl rfl, Or.inl rfl, Or.inl rfl, Or.inl rfl, Or.inl rfl, trivial⟩ ?_
      exact hk s
    · refine G_sload_n (pc := 33) dL_law_33 rfl ?_
      refine G_iload (x := a4) (pc := 34) dL_law_34 rfl ?_
      refine G_sald (pc := 36) dL_law_36 (fun x2 => ?_)
      refine G_bipush (pc := 37) dL_law_37 ?_
      refine G_iand (pc := 39) dL_law_39 (fun x3 => ?_)
      refine G_ite (fun h0 => ?_) (fun h0 => ?_)
      · refine G_tableIn (off := 148) (tgt := 188) (pc := 40) dL_law_40 (by omega) (by rw [h0]; rfl) (by decide) ?_
        refine G_less (bc2 := (4 * F)) (bs2 := (24 * F)) (by omega) (by omega) ?_
        exact gL_law_J188 hst fu F s a1 a2 a3 a4 _ _ (fun w v4 => ih w v4) hk
      · refine G_ite (fun h1 => ?_) (fun h1 => ?_)
        · refine G_tableIn (off := 221) (tgt := 261) (pc := 40) dL_law_40 (by omega) (by rw [h1]; rfl) (by decide) ?_
          refine G_less (bc2 := (4 * F + 1)) (bs2 := (24 * F + 6)) (by omega) (by omega) ?_
          exact gL_law_J261 hst fu F s a1 a2 a3 a4 _ _ (fun w v4 => ih w v4) hk
        · refine G_ite (fun h2 => ?_) (fun h2 => ?_)
          · refine G_tableIn (off := 277) (tgt := 317) (pc := 40) dL_law_40 (by omega) (by rw [h2]; rfl) (by decide) ?_
            refine G_less (bc2 := (4 * F + 1)) (bs2 := (24 * F + 6)) (by omega) (by omega) ?_
            exact gL_law_J317 hst fu F s a1 a2 a3 a4 _ _ (fun w v4 => ih w v4) hk
          · refine G_ite (fun h3 => ?_) (fun h3 => ?_)
            · refine G_tableIn (off := 333) (tgt := 373) (pc := 40) dL_law_40 (by omega) (by rw [h3]; rfl) (by decide) ?_
              refine G_less (bc2 := (4 * F)) (bs2 := (24 * F)) (by omega) (by omega) ?_
              exact gL_law_J373 hst fu F s a1 a2 a3 a4 _ _ (fun w v4 => ih w v4) hk
            · refine G_ite (fun h4 => ?_) (fun h4 => ?_)
              · refine G_tableIn (off := 346) (tgt := 386) (pc := 40) dL_law_40 (by omega) (by rw [h4]; rfl) (by decide) ?_
                refine G_less (bc2 := (4 * F + 2)) (bs2 := (24 * F + 12)) (by omega) (by omega) ?_
                exact gL_law_J386 hst fu F s a1 a2 a3 a4 _ _ (fun w v4 => ih w v4) hk
              · refine G_ite (fun h5 => ?_) (fun h5 => ?_)
                · refine G_tableIn (off := 414) (tgt := 454) (pc := 40) dL_law_40 (by omega) (by rw [h5]; rfl) (by decide) ?_
                  refine G_less (bc2 := (4 * F + 3)) (bs2 := (24 * F + 18)) (by omega) (by omega) ?_
                  exact gL_law_J454 hst fu F s a1 a2 a3 a4 _ _ (fun w v4 => ih w v4) hk
                · refine G_ite (fun h6 => ?_) (fun h6 => ?_)
                  · refine G_tableIn (off := 482) (tgt := 522) (pc := 40) dL_law_40 (by omega) (by rw [h6]; rfl) (by decide) ?_
                    refine G_less (bc2 := (4 * F)) (bs2 := (24 * F)) (by omega) (by omega) ?_
                    exact gL_law_J522 hst fu F s a1 a2 a3 a4 _ _ (fun w v4 => ih w v4) hk
                  · refine G_ite (fun h7 => ?_) (fun h7 => ?_)
                    · refine G_tableIn (off := 495) (tgt := 535) (pc := 40) dL_law_40 (by omega) (by rw [h7]; rfl) (by decide) ?_
                      refine G_less (bc2 := (4 * F + 1)) (bs2 := (24 * F + 6)) (by omega) (by omega) ?_
                      exact gL_law_J535 hst fu F s a1 a2 a3 a4 _ _ (fun w v4 => ih w v4) hk
                    · refine G_ite (fun h8 => ?_) (fun h8 => ?_)
                      · refine G_tableIn (off := 550) (tgt := 590) (pc := 40) dL_law_40 (by omega) (by rw [h8]; rfl) (by decide) ?_
                        refine G_less (bc2 := (4 * F + 2)) (bs2 := (24 * F + 12)) (by omega) (by omega) ?_
                        exact gL_law_J590 hst fu F s a1 a2 a3 a4 _ _ (fun w v4 => ih w v4) hk
                      · refine G_ite (fun h9 => ?_) (fun h9 => ?_)
                        · refine G_tableIn (off := 618) (tgt := 658) (pc := 40) dL_law_40 (by omega) (by rw [h9]; rfl) (by decide) ?_
                          refine G_less (bc2 := (4 * F + 2)) (bs2 := (24 * F + 12)) (by omega) (by omega) ?_
                          exact gL_law_J658 hst fu F s a1 a2 a3 a4 _ _ (fun w v4 => ih w v4) hk
                        · refine G_ite (fun h10 => ?_) (fun h10 => ?_)
                          · refine G_tableIn (off := 686) (tgt := 726) (pc := 40) dL_law_40 (by omega) (by rw [h10]; rfl) (by decide) ?_
                            refine G_less (bc2 := (4 * F + 2)) (bs2 := (24 * F + 12)) (by omega) (by omega) ?_
                            exact gL_law_J726 hst fu F s a1 a2 a3 a4 _ _ (fun w v4 => ih w v4) hk
                          · refine G_ite (fun h11 => ?_) (fun h11 => ?_)
                            · refine G_tableIn (off := 754) (tgt := 794) (pc := 40) dL_law_40 (by omega) (by rw [h11]; rfl) (by decide) ?_
                              refine G_less (bc2 := (4 * F + 2)) (bs2 := (24 * F + 12)) (by omega) (by omega) ?_
                              exact gL_law_J794 hst fu F s a1 a2 a3 a4 _ _ (fun w v4 => ih w v4) hk
                            · refine G_ite (fun h12 => ?_) (fun h12 => ?_)
                              · refine G_tableIn (off := 822) (tgt := 862) (pc := 40) dL_law_40 (by omega) (by rw [h12]; rfl) (by decide) ?_
                                refine G_less (bc2 := (4 * F + 4)) (bs2 := (24 * F + 24)) (by omega) (by omega) ?_
                                exact gL_law_J862 hst fu F s a1 a2 a3 a4 _ _ (fun w v4 => ih w v4) hk
                              · refine G_ite (fun h13 => ?_) (fun h13 => ?_)
                                · refine G_tableIn (off := 914) (tgt := 954) (pc := 40) dL_law_40 (by omega) (by rw [h13]; rfl) (by decide) ?_
                                  refine G_less (bc2 := (4 * F + 1)) (bs2 := (24 * F + 6)) (by omega) (by omega) ?_
                                  exact gL_law_J954 hst fu F s a1 a2 a3 a4 _ _ (fun w v4 => ih w v4) hk
                                · refine G_ite (fun h14 => ?_) (fun h14 => ?_)
                                  · refine G_tableIn (off := 982) (tgt := 1022) (pc := 40) dL_law_40 (by omega) (by rw [h14]; rfl) (by decide) ?_
                                    refine G_less (bc2 := (4 * F + 1)) (bs2 := (24 * F + 6)) (by omega) (by omega) ?_
                                    exact gL_law_J1022 hst fu F s a1 a2 a3 a4 _ _ (fun w v4 => ih w v4) hk
                                  · refine G_ite (fun h15 => ?_) (fun h15 => ?_)
                                    · refine G_tableIn (off := 1050) (tgt := 1090) (pc := 40) dL_law_40 (by omega) (by rw [h15]; rfl) (by decide) ?_
                                      refine G_less (bc2 := (4 * F + 1)) (bs2 := (24 * F + 6)) (by omega) (by omega) ?_
                                      exact gL_law_J1090 hst fu F s a1 a2 a3 a4 _ _ (fun w v4 => ih w v4) hk
                                    · refine G_ite (fun h16 => ?_) (fun h16 => ?_)
                                      · refine G_tableIn (off := 1113) (tgt := 1153) (pc := 40) dL_law_40 (by omega) (by rw [h16]; rfl) (by decide) ?_
                                        refine G_less (bc2 := (4 * F + 3)) (bs2 := (24 * F + 18)) (by omega) (by omega) ?_
                                        exact gL_law_J1153 hst fu F s a1 a2 a3 a4 _ _ (fun w v4 => ih w v4) hk
                                      · refine G_ite (fun h17 => ?_) (fun h17 => ?_)
                                        · refine G_tableIn (off := 1181) (tgt := 1221) (pc := 40) dL_law_40 (by omega) (by rw [h17]; rfl) (by decide) ?_
                                          refine G_less (bc2 := (4 * F + 2)) (bs2 := (24 * F + 12)) (by omega) (by omega) ?_
                                          exact gL_law_J1221 hst fu F s a1 a2 a3 a4 _ _ (fun w v4 => ih w v4) hk
                                        · refine G_ite (fun h18 => ?_) (fun h18 => ?_)
                                          · refine G_tableIn (off := 1249) (tgt := 1289) (pc := 40) dL_law_40 (by omega) (by rw [h18]; rfl) (by decide) ?_
                                            refine G_less (bc2 := (4 * F + 1)) (bs2 := (24 * F + 6)) (by omega) (by omega) ?_
                                            exact gL_law_J1289 hst fu F s a1 a2 a3 a4 _ _ (fun w v4 => ih w v4) hk
                                          · refine G_ite (fun h19 => ?_) (fun h19 => ?_)
                                            · refine G_tableIn (off := 1305) (tgt := 1345) (pc := 40) dL_law_40 (by omega) (by rw [h19]; rfl) (by decide) ?_
                                              refine G_less (bc2 := (4 * F)) (bs2 := (24 * F)) (by omega) (by omega) ?_
                                              exact gL_law_J1345 hst fu F s a1 a2 a3 a4 _ _ (fun w v4 => ih w v4) hk
                                            · refine G_ite (fun h20 => ?_) (fun h20 => ?_)
                                              · refine G_tableIn (off := 1319) (tgt := 1359) (pc := 40) dL_law_40 (by omega) (by rw [h20]; rfl) (by decide) ?_
                                                refine G_less (bc2 := (4 * F + 1)) (bs2 := (24 * F + 6)) (by omega) (by omega) ?_
                                                exact gL_law_J1359 hst fu F s a1 a2 a3 a4 _ _ (fun w v4 => ih w v4) hk
                                              · refine G_ite (fun h21 => ?_) (fun h21 => ?_)
                                                · refine G_tableIn (off := 1375) (tgt := 1415) (pc := 40) dL_law_40 (by omega) (by rw [h21]; rfl) (by decide) ?_
                                                  refine G_less (bc2 := (4 * F)) (bs2 := (24 * F)) (by omega) (by omega) ?_
                                                  exact gL_law_J1415 hst fu F s a1 a2 a3 a4 _ _ (fun w v4 => ih w v4) hk
                                                · refine G_ite (fun h22 => ?_) (fun h22 => ?_)
                                                  · refine G_tableIn (off := 1388) (tgt := 1428) (pc := 40) dL_law_40 (by omega) (by rw [h22]; rfl) (by decide) ?_
                                                    refine G_less (bc2 := (4 * F + 1)) (bs2 := (24 * F + 6)) (by omega) (by omega) ?_
                                                    exact gL_law_J1428 hst fu F s a1 a2 a3 a4 _ _ (fun w v4 => ih w v4) hk
                                                  · refine G_ite (fun h23 => ?_) (fun h23 => ?_)
                                                    · refine G_tableIn (off := 1444) (tgt := 1484) (pc := 40) dL_law_40 (by omega) (by rw [h23]; rfl) (by decide) ?_
                                                      refine G_less (bc2 := (4 * F + 1)) (bs2 := (24 * F + 6)) (by omega) (by omega) ?_
                                                      exact gL_law_J1484 hst fu F s a1 a2 a3 a4 _ _ (fun w v4 => ih w v4) hk
                                                    · refine G_ite (fun h24 => ?_) (fun h24 => ?_)
                                                      · refine G_tableIn (off := 1500) (tgt := 1540) (pc := 40) dL_law_40 (by omega) (by rw [h24]; rfl) (by decide) ?_
                                                        refine G_less (bc2 := (4 * F + 1)) (bs2 := (24 * F + 6)) (by omega) (by omega) ?_
                                                        exact gL_law_J1540 hst fu F s a1 a2 a3 a4 _ _ (fun w v4 => ih w v4) hk
                                                      · refine G_ite (fun h25 => ?_) (fun h25 => ?_)
                                                        · refine G_tableIn (off := 1556) (tgt := 1596) (pc := 40) dL_law_40 (by omega) (by rw [h25]; rfl) (by decide) ?_
                                                          refine G_less (bc2 := (4 * F + 3)) (bs2 := (24 * F + 18)) (by omega) (by omega) ?_
                                                          exact gL_law_J1596 hst fu F s a1 a2 a3 a4 _ _ (fun w v4 => ih w v4) hk
                                                        · refine G_ite (fun h26 => ?_) (fun h26 => ?_)
                                                          · refine G_tableIn (off := 1636) (tgt := 1676) (pc := 40) dL_law_40 (by omega) (by rw [h26]; rfl) (by decide) ?_
                                                            refine G_less (bc2 := (4 * F + 1)) (bs2 := (24 * F + 6)) (by omega) (by omega) ?_
                                                            exact gL_law_J1676 hst fu F s a1 a2 a3 a4 _ _ (fun w v4 => ih w v4) hk
                                                          · refine G_ite (fun h27 => ?_) (fun h27 => ?_)
                                                            · refine G_tableIn (off := 1692) (tgt := 1732) (pc := 40) dL_law_40 (by omega) (by rw [h27]; rfl) (by decide) ?_
                                                              refine G_less (bc2 := (4 * F + 1)) (bs2 := (24 * F + 6)) (by omega) (by omega) ?_
                                                              exact gL_law_J1732 hst fu F s a1 a2 a3 a4 _ _ (fun w v4 => ih w v4) hk
                                                            · refine G_ite (fun h28 => ?_) (fun h28 => ?_)
                                                              · refine G_tableIn (off := 1748) (tgt := 1788) (pc := 40) dL_law_40 (by omega) (by rw [h28]; rfl) (by decide) ?_
                                                                refine G_less (bc2 := (4 * F + 3)) (bs2 := (24 * F + 18)) (by omega) (by omega) ?_
                                                                exact gL_law_J1788 hst fu F s a1 a2 a3 a4 _ _ (fun w v4 => ih w v4) hk
                                                              · refine G_ite (fun h29 => ?_) (fun h29 => ?_)
                                                                · refine G_tableIn (off := 1816) (tgt := 1856) (pc := 40) dL_law_40 (by omega) (by rw [h29]; rfl) (by decide) ?_
                                                                  refine G_less (bc2 := (4 * F + 1)) (bs2 := (24 * F + 6)) (by omega) (by omega) ?_
                                                                  exact gL_law_J1856 hst fu F s a1 a2 a3 a4 _ _ (fun w v4 => ih w v4) hk
                                                                · refine G_ite (fun h30 => ?_) (fun h30 => ?_)
                                                                  · refine G_tableIn (off := 1872) (tgt := 1912) (pc := 40) dL_law_40 (by omega) (by rw [h30]; rfl) (by decide) ?_
                                                                    refine G_less (bc2 := (4 * F + 2)) (bs2 := (24 * F + 12)) (by omega) (by omega) ?_
                                                                    exact gL_law_J1912 hst fu F s a1 a2 a3 a4 _ _ (fun w v4 => ih w v4) hk
                                                                  · refine G_ite (fun h31 => ?_) (fun h31 => ?_)
                                                                    · refine G_tableIn (off := 1952) (tgt := 1992) (pc := 40) dL_law_40 (by omega) (by rw [h31]; rfl) (by decide) ?_
                                                                      refine G_less (bc2 := (4 * F + 1)) (bs2 := (24 * F + 6)) (by omega) (by omega) ?_
                                                                      exact gL_law_J1992 hst fu F s a1 a2 a3 a4 _ _ (fun w v4 => ih w v4) hk
                                                                    · refine G_ite (fun h32 => ?_) (fun h32 => ?_)
                                                                      · refine G_tableIn (off := 2008) (tgt := 2048) (pc := 40) dL_law_40 (by omega) (by rw [h32]; rfl) (by decide) ?_
                                                                        refine G_less (bc2 := (4 * F)) (bs2 := (24 * F)) (by omega) (by omega) ?_
                                                                        exact gL_law_J2048 hst fu F s a1 a2 a3 a4 _ _ (fun w v4 => ih w v4) hk
                                                                      · refine G_tableOut (tgt := 2073) (pc := 40) dL_law_40 (by omega) ?_
                                                                        refine G_less (bc2 := (4 * F)) (bs2 := (24 * F)) (by omega) (by omega) ?_
                                                                        exact gL_law_J2073 hst fu F s a1 a2 a3 a4 _ _ (fun w v4 => ih w v4) hk
