/-! THE LAW: handlers and the script as rules; the law's helpers and its loop as functions (by program, wip/tool/mklaw.py) -/
def z_cI (r : z_O) (k : Int → z_M → z_O) (h0 h1 : z_M → z_O) : z_O := match r with
  | some ((0, x), s) => k x s
  | some ((6, x), s) => if x = 0 then h0 s else if x = 1 then h1 s else none
  | _ => none
def z_cL (r : z_O) (k : Int → z_M → z_O) (h0 h1 : z_M → z_O) : z_O := match r with
  | some ((1, x), s) => k x s
  | some ((6, x), s) => if x = 0 then h0 s else if x = 1 then h1 s else none
  | _ => none
section ZX
variable {l : Launch} {K : z_K} {M : z_Me} {fr lo bc bs pc : Nat} {lv st : List z_V} {σ : z_M} {E : z_O}
theorem z_isRA {q : Nat} : z_isR (vA q) := Or.inr (Or.inl rfl)
theorem G_sload_n {i : Fin 4} (hd : decode M.2.1 pc = .ok (.aload_n i, 1)) (hv : lv[(i : Nat)]? = some (vA K.2.2.2.2.2.1)) (k : G l K M fr lo bc bs (pc + 1) lv (vA K.2.2.2.2.2.1 :: st) σ (E)) : G l K M fr lo bc bs (pc) lv (st) σ (E) := fun h => V_aload_n hd hv (k h) z_isRA
theorem G_xastore_n {i : Fin 4} {q : Nat} {lv' : List z_V} (hd : decode M.2.1 pc = .ok (.astore_n i, 1)) (hs : z_set lv (i : Nat) (vA q) = lv') (k : G l K M fr lo bc bs (pc + 1) lv' (st) σ (E)) (hi : (i : Nat) < M.2.2.1 := by decide) : G l K M fr lo bc bs (pc) lv (vA q :: st) σ (E) := fun h => V_astore_n hd hs (k h) z_isRA hi
theorem G_xastore {i : Nat} {q : Nat} {lv' : List z_V} (hd : decode M.2.1 pc = .ok (.astore i, 2)) (hs : z_set lv i (vA q) = lv') (k : G l K M fr lo bc bs (pc + 2) lv' (st) σ (E)) (hi : i < M.2.2.1 := by decide) : G l K M fr lo bc bs (pc) lv (vA q :: st) σ (E) := fun h => V_astore hd hs (k h) z_isRA hi
theorem GX_1 {x : Int} {a b h ct : Nat} {hr : List (Nat × Nat × Nat × Nat)} (hh : M.2.2.2.2 = (a, b, h, ct) :: hr) (hx : x = 0 ∨ x = 1) (hw : Cond.classLink M.1.cls ct (z_xn x) ∈ z_tbl) (hc : a ≤ pc ∧ pc < b) (h0 : ct ≠ 0)
    (kk : ∀ q : Nat, G l K M fr lo bc bs h lv [vA q] σ E) : E ≠ none → VX l K M fr lo bc bs pc lv st z_NC z_gr σ x (z_QE E) := fun he => VX_catch1 hh hx hw hc h0 fun q => kk q he
theorem GX_2 {x x2 : Int} {a b h ct a2 b2 h2' ct2 : Nat} {hr : List (Nat × Nat × Nat × Nat)} (hh : M.2.2.2.2 = (a2, b2, h2', ct2) :: (a, b, h, ct) :: hr) (hx : (x = 0 ∧ x2 = 1) ∨ (x = 1 ∧ x2 = 0)) (hw : Cond.classLink M.1.cls ct (z_xn x) ∈ z_tbl) (hw2 : Cond.classLink M.1.cls ct2 (z_xn x2) ∈ z_tbl) (hc : a ≤ pc ∧ pc < b) (h0 : ct ≠ 0) (h02 : ct2 ≠ 0)
    (kk : ∀ q : Nat, G l K M fr lo bc bs h lv [vA q] σ E) : E ≠ none → VX l K M fr lo bc bs pc lv st z_NC z_gr σ x (z_QE E) := fun he => VX_catch2 hh hx hw hw2 hc h0 h02 fun q => kk q he
theorem z_krCI {bc2 bs2 : Nat} {r : z_O} {f : Int → z_M → z_O} {h0 h1 : z_M → z_O} (h : z_cI r f h0 h1 ≠ none) (kk : ∀ x s, G l K M fr lo bc2 bs2 (pc + 3) lv (vI x :: st) s (f x s)) : ∀ (v : z_V) (n' : Nat) (τ' σ' : z_M), v.1 < 6 → z_g v → z_QE r v n' τ' σ' → V l K M fr lo bc2 bs2 (pc + 3) lv (z_push v st) n' τ' σ' (z_QE (z_cI r f h0 h1)) := by
  intro v n' τ' σ' hv _ hq
  obtain ⟨rfl, rfl, e⟩ := hq
  obtain ⟨t, x⟩ := v
  subst e
  match t, hv with
  | 0, _ => exact kk _ _ h
  | 1, _ => exact absurd rfl h
  | 2, _ => exact absurd rfl h
  | 3, _ => exact absurd rfl h
  | 4, _ => exact absurd rfl h
  | 5, _ => exact absurd rfl h
theorem z_krCL {bc2 bs2 : Nat} {r : z_O} {f : Int → z_M → z_O} {h0 h1 : z_M → z_O} (h : z_cL r f h0 h1 ≠ none) (kk : ∀ x s, G l K M fr lo bc2 bs2 (pc + 3) lv (vL x :: st) s (f x s)) : ∀ (v : z_V) (n' : Nat) (τ' σ' : z_M), v.1 < 6 → z_g v → z_QE r v n' τ' σ' → V l K M fr lo bc2 bs2 (pc + 3) lv (z_push v st) n' τ' σ' (z_QE (z_cL r f h0 h1)) := by
  intro v n' τ' σ' hv _ hq
  obtain ⟨rfl, rfl, e⟩ := hq
  obtain ⟨t, x⟩ := v
  subst e
  match t, hv with
  | 0, _ => exact absurd rfl h
  | 1, _ => exact kk _ _ h
  | 2, _ => exact absurd rfl h
  | 3, _ => exact absurd rfl h
  | 4, _ => exact absurd rfl h
  | 5, _ => exact absurd rfl h
theorem z_kxCI {bc2 bs2 : Nat} {r : z_O} {f : Int → z_M → z_O} {h0 h1 : z_M → z_O} (h : z_cI r f h0 h1 ≠ none) (kx0 : ∀ s, h0 s ≠ none → VX l K M fr lo bc2 bs2 pc lv st z_NC z_gr s 0 (z_QE (h0 s))) (kx1 : ∀ s, h1 s ≠ none → VX l K M fr lo bc2 bs2 pc lv st z_NC z_gr s 1 (z_QE (h1 s))) :
    ∀ (x : Int) (n' : Nat) (τ' σ' : z_M), z_QE r (vX x) n' τ' σ' → VX l K M fr lo bc2 bs2 pc lv st n' τ' σ' x (z_QE (z_cI r f h0 h1)) := by
  intro x n' τ' σ' hq
  obtain ⟨rfl, rfl, e⟩ := hq
  subst e
  by_cases q0 : x = 0
  · subst q0
    have e2 : z_cI (some (vX 0, σ')) f h0 h1 = h0 σ' := rfl
    rw [e2] at h ⊢; exact kx0 _ h
  · by_cases q1 : x = 1
    · subst q1
      have e2 : z_cI (some (vX 1, σ')) f h0 h1 = h1 σ' := rfl
      rw [e2] at h ⊢; exact kx1 _ h
    · exact absurd ((if_neg q0).trans (if_neg q1)) h
theorem z_kxCL {bc2 bs2 : Nat} {r : z_O} {f : Int → z_M → z_O} {h0 h1 : z_M → z_O} (h : z_cL r f h0 h1 ≠ none) (kx0 : ∀ s, h0 s ≠ none → VX l K M fr lo bc2 bs2 pc lv st z_NC z_gr s 0 (z_QE (h0 s))) (kx1 : ∀ s, h1 s ≠ none → VX l K M fr lo bc2 bs2 pc lv st z_NC z_gr s 1 (z_QE (h1 s))) :
    ∀ (x : Int) (n' : Nat) (τ' σ' : z_M), z_QE r (vX x) n' τ' σ' → VX l K M fr lo bc2 bs2 pc lv st n' τ' σ' x (z_QE (z_cL r f h0 h1)) := by
  intro x n' τ' σ' hq
  obtain ⟨rfl, rfl, e⟩ := hq
  subst e
  by_cases q0 : x = 0
  · subst q0
    have e2 : z_cL (some (vX 0, σ')) f h0 h1 = h0 σ' := rfl
    rw [e2] at h ⊢; exact kx0 _ h
  · by_cases q1 : x = 1
    · subst q1
      have e2 : z_cL (some (vX 1, σ')) f h0 h1 = h1 σ' := rfl
      rw [e2] at h ⊢; exact kx1 _ h
    · exact absurd ((if_neg q0).trans (if_neg q1)) h
theorem z_neCI {r : z_O} {f : Int → z_M → z_O} {h0 h1 : z_M → z_O} (h : z_cI r f h0 h1 ≠ none) : r ≠ none := by
  intro e
  subst e
  exact h rfl
theorem z_neCL {r : z_O} {f : Int → z_M → z_O} {h0 h1 : z_M → z_O} (h : z_cL r f h0 h1 ≠ none) : r ≠ none := by
  intro e
  subst e
  exact h rfl
theorem G_ccI {idx na c fr2 lo2 mc ms bc2 bs2 : Nat} {M2 : z_Me} {as S : List z_V} {k : Int} {r : z_O} {f : Int → z_M → z_O} {h0 h1 : z_M → z_O} {r9 : vw_C} (hd : decode M.2.1 pc = .ok (.invokevirtual idx, 3)) (hM : z_MOK M2) (hV : z_VOK M2 na) (hw : Cond.methodLink M.1.cls idx M2.1 ∈ z_tbl) (hC : z_D l K M2 fr2 lo2 mc ms (vR k :: as) σ r) (hS : as.reverse ++ vR k :: st = S)
    (hn : as.length = na) (hc : c < 100) (hcl : vwCl[c]? = some r9) (hcn : r9.1 = M2.1.cls) (hrm : z_rm fr lo bc bs fr2 M2.2.2.1 lo2 mc ms bc2 bs2 st)
    (kk : ∀ x s, G l K M fr lo bc2 bs2 (pc + 3) lv (vI x :: st) s (f x s)) (kx0 : ∀ s, h0 s ≠ none → VX l K M fr lo bc2 bs2 pc lv st z_NC z_gr s 0 (z_QE (h0 s))) (kx1 : ∀ s, h1 s ≠ none → VX l K M fr lo bc2 bs2 pc lv st z_NC z_gr s 1 (z_QE (h1 s))) : G l K M fr lo bc bs (pc) lv (S) σ (if z_ob k c then z_cI r f h0 h1 else none) := by
  subst hS
  exact G_chk fun q h => V_callV hd hM hV hw (hC (z_neCI h)) hn q.1 (z_le_NC q.2.1) q.2.2 hc hcl hcn hrm (z_krCI h kk) (z_kxCI h kx0 kx1)
theorem G_ccL {idx na c fr2 lo2 mc ms bc2 bs2 : Nat} {M2 : z_Me} {as S : List z_V} {k : Int} {r : z_O} {f : Int → z_M → z_O} {h0 h1 : z_M → z_O} {r9 : vw_C} (hd : decode M.2.1 pc = .ok (.invokevirtual idx, 3)) (hM : z_MOK M2) (hV : z_VOK M2 na) (hw : Cond.methodLink M.1.cls idx M2.1 ∈ z_tbl) (hC : z_D l K M2 fr2 lo2 mc ms (vR k :: as) σ r) (hS : as.reverse ++ vR k :: st = S)
    (hn : as.length = na) (hc : c < 100) (hcl : vwCl[c]? = some r9) (hcn : r9.1 = M2.1.cls) (hrm : z_rm fr lo bc bs fr2 M2.2.2.1 lo2 mc ms bc2 bs2 st)
    (kk : ∀ x s, G l K M fr lo bc2 bs2 (pc + 3) lv (vL x :: st) s (f x s)) (kx0 : ∀ s, h0 s ≠ none → VX l K M fr lo bc2 bs2 pc lv st z_NC z_gr s 0 (z_QE (h0 s))) (kx1 : ∀ s, h1 s ≠ none → VX l K M fr lo bc2 bs2 pc lv st z_NC z_gr s 1 (z_QE (h1 s))) : G l K M fr lo bc bs (pc) lv (S) σ (if z_ob k c then z_cL r f h0 h1 else none) := by
  subst hS
  exact G_chk fun q h => V_callV hd hM hV hw (hC (z_neCL h)) hn q.1 (z_le_NC q.2.1) q.2.2 hc hcl hcn hrm (z_krCL h kk) (z_kxCL h kx0 kx1)
end ZX
def fL_text (fu : Nat) (s : z_M) (a0 : Int) (a1 : Int) (a2 : Int) : z_O := if z_ob a0 11 then z_cI (fX11_text fu s a0 a1) (fun x2 s1 => if z_ix a2 101 0 then z_let (z_up s1 a2 0 x2) (fun s3 => some (vI 0, s3)) else none) (fun _ => none) (fun s4 => some (vI 1, s4)) else none
theorem gL_text {l : Launch} {K : z_K} (hst : l.stackTraces = false) (fu : Nat) (s : z_M) (a0 : Int) (a1 : Int) (a2 : Int) : z_D l K mL_text 8 194 1 6 [vR a0, vI a1, vR a2] s (fL_text fu s a0 a1 a2) := by
  refine z_D_of (lv := [vR a0, vI a1, vR a2, vU]) hst z_mL_text rfl ?_ (Nat.le_of_ble_eq_true rfl) rfl
  unfold fL_text
  refine G_aload_n (x := a2) (pc := 0) dL_text_0 rfl ?_
  refine G_iconst (pc := 1) dL_text_1 ?_
  refine G_aload_n (x := a0) (pc := 2) dL_text_2 rfl ?_
  refine G_iload_n (x := a1) (pc := 3) dL_text_3 rfl ?_
  refine G_ccI (as := [vI a1]) (st := [vI 0, vR a2]) (c := 11) (bc2 := 0) (bs2 := 0) (pc := 4) dL_text_4 z_mX11_text z_vX11_text z_wL_7 (gX11_text hst fu s a0 a1) rfl rfl (by decide) rfl rfl ⟨by decide, by decide, by decide, by decide, Nat.le_of_ble_eq_true rfl⟩ (fun x2 s1 => ?_) (fun _ h => absurd rfl h) (fun s4 => GX_1 (x := 1) rfl (Or.inr rfl) z_wL_13 (by decide) (by decide) (fun q5 => ?_))
  · refine G_i2l (pc := 7) dL_text_7 ?_
    refine G_last (pc := 8) dL_text_8 (fun s3 => ?_)
    refine G_goto (tgt := 15) (pc := 9) dL_text_9 ?_
    refine G_iconst (pc := 15) dL_text_15 ?_
    exact G_iret (pc := 16) dL_text_16
  · refine G_xastore_n (lv' := [vR a0, vI a1, vR a2, vA q5]) (pc := 12) dL_text_12 rfl ?_
    refine G_iconst (pc := 13) dL_text_13 ?_
    exact G_iret (pc := 14) dL_text_14
def fL_more (fu : Nat) (s : z_M) (a0 : Int) (a1 : Int) (a2 : Int) : z_O := if z_ob a0 11 then z_cI (fX11_more fu s a0 a1) (fun x2 s1 => if z_ix a2 101 0 then z_let (z_up s1 a2 0 x2) (fun s3 => some (vI 0, s3)) else none) (fun _ => none) (fun s4 => some (vI 1, s4)) else none
theorem gL_more {l : Launch} {K : z_K} (hst : l.stackTraces = false) (fu : Nat) (s : z_M) (a0 : Int) (a1 : Int) (a2 : Int) : z_D l K mL_more 8 194 1 6 [vR a0, vI a1, vR a2] s (fL_more fu s a0 a1 a2) := by
  refine z_D_of (lv := [vR a0, vI a1, vR a2, vU]) hst z_mL_more rfl ?_ (Nat.le_of_ble_eq_true rfl) rfl
  unfold fL_more
  refine G_aload_n (x := a2) (pc := 0) dL_more_0 rfl ?_
  refine G_iconst (pc := 1) dL_more_1 ?_
  refine G_aload_n (x := a0) (pc := 2) dL_more_2 rfl ?_
  refine G_iload_n (x := a1) (pc := 3) dL_more_3 rfl ?_
  refine G_ccI (as := [vI a1]) (st := [vI 0, vR a2]) (c := 11) (bc2 := 0) (bs2 := 0) (pc := 4) dL_more_4 z_mX11_more z_vX11_more z_wL_15 (gX11_more hst fu s a0 a1) rfl rfl (by decide) rfl rfl ⟨by decide, by decide, by decide, by decide, Nat.le_of_ble_eq_true rfl⟩ (fun x2 s1 => ?_) (fun _ h => absurd rfl h) (fun s4 => GX_1 (x := 1) rfl (Or.inr rfl) z_wL_13 (by decide) (by decide) (fun q5 => ?_))
  · refine G_i2l (pc := 7) dL_more_7 ?_
    refine G_last (pc := 8) dL_more_8 (fun s3 => ?_)
    refine G_goto (tgt := 15) (pc := 9) dL_more_9 ?_
    refine G_iconst (pc := 15) dL_more_15 ?_
    exact G_iret (pc := 16) dL_more_16
  · refine G_xastore_n (lv' := [vR a0, vI a1, vR a2, vA q5]) (pc := 12) dL_more_12 rfl ?_
    refine G_iconst (pc := 13) dL_more_13 ?_
    exact G_iret (pc := 14) dL_more_14
def fL_set (fu : Nat) (s : z_M) (a0 : Int) (a1 : Int) (a2 : Int) (a3 : Int) : z_O := if z_ob a0 11 then z_cI (fX11_set fu s a0 a1 a2) (fun x2 s1 => if z_ix a3 101 0 then z_let (z_up s1 a3 0 x2) (fun s3 => some (vI 0, s3)) else none) (fun _ => none) (fun s4 => some (vI 1, s4)) else none
theorem gL_set {l : Launch} {K : z_K} (hst : l.stackTraces = false) (fu : Nat) (s : z_M) (a0 : Int) (a1 : Int) (a2 : Int) (a3 : Int) : z_D l K mL_set 8 127 2 12 [vR a0, vI a1, vI a2, vR a3] s (fL_set fu s a0 a1 a2 a3) := by
  refine z_D_of (lv := [vR a0, vI a1, vI a2, vR a3, vU]) hst z_mL_set rfl ?_ (Nat.le_of_ble_eq_true rfl) rfl
  unfold fL_set
  refine G_aload_n (x := a3) (pc := 0) dL_set_0 rfl ?_
  refine G_iconst (pc := 1) dL_set_1 ?_
  refine G_aload_n (x := a0) (pc := 2) dL_set_2 rfl ?_
  refine G_iload_n (x := a1) (pc := 3) dL_set_3 rfl ?_
  refine G_iload_n (x := a2) (pc := 4) dL_set_4 rfl ?_
  refine G_ccI (as := [vI a1, vI a2]) (st := [vI 0, vR a3]) (c := 11) (bc2 := 0) (bs2 := 0) (pc := 5) dL_set_5 z_mX11_set z_vX11_set z_wL_18 (gX11_set hst fu s a0 a1 a2) rfl rfl (by decide) rfl rfl ⟨by decide, by decide, by decide, by decide, Nat.le_of_ble_eq_true rfl⟩ (fun x2 s1 => ?_) (fun _ h => absurd rfl h) (fun s4 => GX_1 (x := 1) rfl (Or.inr rfl) z_wL_13 (by decide) (by decide) (fun q5 => ?_))
  · refine G_i2l (pc := 8) dL_set_8 ?_
    refine G_last (pc := 9) dL_set_9 (fun s3 => ?_)
    refine G_goto (tgt := 17) (pc := 10) dL_set_10 ?_
    refine G_iconst (pc := 17) dL_set_17 ?_
    exact G_iret (pc := 18) dL_set_18
  · refine G_xastore (lv' := [vR a0, vI a1, vI a2, vR a3, vA q5]) (pc := 13) dL_set_13 rfl ?_
    refine G_iconst (pc := 15) dL_set_15 ?_
    exact G_iret (pc := 16) dL_set_16
def fL_cut (fu : Nat) (s : z_M) (a0 : Int) (a1 : Int) (a2 : Int) (a3 : Int) : z_O := if z_ob a0 11 then z_cI (fX11_cut fu s a0 a1 a2) (fun x2 s1 => if z_ix a3 101 0 then z_let (z_up s1 a3 0 x2) (fun s3 => some (vI 0, s3)) else none) (fun s4 => some (vI 1, s4)) (fun s6 => some (vI 2, s6)) else none
theorem gL_cut {l : Launch} {K : z_K} (hst : l.stackTraces = false) (fu : Nat) (s : z_M) (a0 : Int) (a1 : Int) (a2 : Int) (a3 : Int) : z_D l K mL_cut 8 194 3 18 [vR a0, vI a1, vI a2, vR a3] s (fL_cut fu s a0 a1 a2 a3) := by
  refine z_D_of (lv := [vR a0, vI a1, vI a2, vR a3, vU]) hst z_mL_cut rfl ?_ (Nat.le_of_ble_eq_true rfl) rfl
  unfold fL_cut
  refine G_aload_n (x := a3) (pc := 0) dL_cut_0 rfl ?_
  refine G_iconst (pc := 1) dL_cut_1 ?_
  refine G_aload_n (x := a0) (pc := 2) dL_cut_2 rfl ?_
  refine G_iload_n (x := a1) (pc := 3) dL_cut_3 rfl ?_
  refine G_iload_n (x := a2) (pc := 4) dL_cut_4 rfl ?_
  refine G_ccI (as := [vI a1, vI a2]) (st := [vI 0, vR a3]) (c := 11) (bc2 := 0) (bs2 := 0) (pc := 5) dL_cut_5 z_mX11_cut z_vX11_cut z_wL_22 (gX11_cut hst fu s a0 a1 a2) rfl rfl (by decide) rfl rfl ⟨by decide, by decide, by decide, by decide, Nat.le_of_ble_eq_true rfl⟩ (fun x2 s1 => ?_) (fun s4 => GX_1 (x := 0) rfl (Or.inl rfl) z_wL_25 (by decide) (by decide) (fun q5 => ?_)) (fun s6 => GX_2 (x := 1) (x2 := 0) rfl (Or.inr ⟨rfl, rfl⟩) z_wL_13 z_wL_25 (by decide) (by decide) (by decide) (fun q7 => ?_))
  · refine G_i2l (pc := 8) dL_cut_8 ?_
    refine G_last (pc := 9) dL_cut_9 (fun s3 => ?_)
    refine G_goto (tgt := 21) (pc := 10) dL_cut_10 ?_
    refine G_iconst (pc := 21) dL_cut_21 ?_
    exact G_iret (pc := 22) dL_cut_22
  · refine G_xastore (lv' := [vR a0, vI a1, vI a2, vR a3, vA q5]) (pc := 13) dL_cut_13 rfl ?_
    refine G_iconst (pc := 15) dL_cut_15 ?_
    exact G_iret (pc := 16) dL_cut_16
  · refine G_xastore (lv' := [vR a0, vI a1, vI a2, vR a3, vA q7]) (pc := 17) dL_cut_17 rfl ?_
    refine G_iconst (pc := 19) dL_cut_19 ?_
    exact G_iret (pc := 20) dL_cut_20
def fL_told (fu : Nat) (s : z_M) (a0 : Int) (a1 : Int) (a2 : Int) : z_O := if z_ob a0 11 then z_cL (fX11_told fu s a0 a1) (fun x2 s1 => if z_ix a2 101 0 then z_let (z_up s1 a2 0 x2) (fun s3 => some (vI 0, s3)) else none) (fun _ => none) (fun s4 => some (vI 1, s4)) else none
theorem gL_told {l : Launch} {K : z_K} (hst : l.stackTraces = false) (fu : Nat) (s : z_M) (a0 : Int) (a1 : Int) (a2 : Int) : z_D l K mL_told 8 193 1 6 [vR a0, vI a1, vR a2] s (fL_told fu s a0 a1 a2) := by
  refine z_D_of (lv := [vR a0, vI a1, vR a2, vU]) hst z_mL_told rfl ?_ (Nat.le_of_ble_eq_true rfl) rfl
  unfold fL_told
  refine G_aload_n (x := a2) (pc := 0) dL_told_0 rfl ?_
  refine G_iconst (pc := 1) dL_told_1 ?_
  refine G_aload_n (x := a0) (pc := 2) dL_told_2 rfl ?_
  refine G_iload_n (x := a1) (pc := 3) dL_told_3 rfl ?_
  refine G_ccL (as := [vI a1]) (st := [vI 0, vR a2]) (c := 11) (bc2 := 0) (bs2 := 0) (pc := 4) dL_told_4 z_mX11_told z_vX11_told z_wL_27 (gX11_told hst fu s a0 a1) rfl rfl (by decide) rfl rfl ⟨by decide, by decide, by decide, by decide, Nat.le_of_ble_eq_true rfl⟩ (fun x2 s1 => ?_) (fun _ h => absurd rfl h) (fun s4 => GX_1 (x := 1) rfl (Or.inr rfl) z_wL_13 (by decide) (by decide) (fun q5 => ?_))
  · refine G_last (pc := 7) dL_told_7 (fun s3 => ?_)
    refine G_goto (tgt := 14) (pc := 8) dL_told_8 ?_
    refine G_iconst (pc := 14) dL_told_14 ?_
    exact G_iret (pc := 15) dL_told_15
  · refine G_xastore_n (lv' := [vR a0, vI a1, vR a2, vA q5]) (pc := 11) dL_told_11 rfl ?_
    refine G_iconst (pc := 12) dL_told_12 ?_
    exact G_iret (pc := 13) dL_told_13
def fL_unit (fu : Nat) (s : z_M) (a0 : Int) (a1 : Int) (a2 : Int) (a3 : Int) : z_O := if z_ob a0 11 then z_cI (fX11_unit fu s a0 a1 a2) (fun x2 s1 => if z_ix a3 101 0 then z_let (z_up s1 a3 0 x2) (fun s3 => some (vI 0, s3)) else none) (fun s4 => some (vI 1, s4)) (fun s6 => some (vI 2, s6)) else none
theorem gL_unit {l : Launch} {K : z_K} (hst : l.stackTraces = false) (fu : Nat) (s : z_M) (a0 : Int) (a1 : Int) (a2 : Int) (a3 : Int) : z_D l K mL_unit 8 194 2 12 [vR a0, vI a1, vI a2, vR a3] s (fL_unit fu s a0 a1 a2 a3) := by
  refine z_D_of (lv := [vR a0, vI a1, vI a2, vR a3, vU]) hst z_mL_unit rfl ?_ (Nat.le_of_ble_eq_true rfl) rfl
  unfold fL_unit
  refine G_aload_n (x := a3) (pc := 0) dL_unit_0 rfl ?_
  refine G_iconst (pc := 1) dL_unit_1 ?_
  refine G_aload_n (x := a0) (pc := 2) dL_unit_2 rfl ?_
  refine G_iload_n (x := a1) (pc := 3) dL_unit_3 rfl ?_
  refine G_iload_n (x := a2) (pc := 4) dL_unit_4 rfl ?_
  refine G_ccI (as := [vI a1, vI a2]) (st := [vI 0, vR a3]) (c := 11) (bc2 := 0) (bs2 := 0) (pc := 5) dL_unit_5 z_mX11_unit z_vX11_unit z_wL_31 (gX11_unit hst fu s a0 a1 a2) rfl rfl (by decide) rfl rfl ⟨by decide, by decide, by decide, by decide, Nat.le_of_ble_eq_true rfl⟩ (fun x2 s1 => ?_) (fun s4 => GX_1 (x := 0) rfl (Or.inl rfl) z_wL_25 (by decide) (by decide) (fun q5 => ?_)) (fun s6 => GX_2 (x := 1) (x2 := 0) rfl (Or.inr ⟨rfl, rfl⟩) z_wL_13 z_wL_25 (by decide) (by decide) (by decide) (fun q7 => ?_))
  · refine G_i2l (pc := 8) dL_unit_8 ?_
    refine G_last (pc := 9) dL_unit_9 (fun s3 => ?_)
    refine G_goto (tgt := 21) (pc := 10) dL_unit_10 ?_
    refine G_iconst (pc := 21) dL_unit_21 ?_
    exact G_iret (pc := 22) dL_unit_22
  · refine G_xastore (lv' := [vR a0, vI a1, vI a2, vR a3, vA q5]) (pc := 13) dL_unit_13 rfl ?_
    refine G_iconst (pc := 15) dL_unit_15 ?_
    exact G_iret (pc := 16) dL_unit_16
  · refine G_xastore (lv' := [vR a0, vI a1, vI a2, vR a3, vA q7]) (pc := 17) dL_unit_17 rfl ?_
    refine G_iconst (pc := 19) dL_unit_19 ?_
    exact G_iret (pc := 20) dL_unit_20
def fL_sign (fu : Nat) (s : z_M) (a0 : Int) (a1 : Int) (a2 : Int) (a3 : Int) : z_O := if z_ob a0 11 then z_cI (fX11_sign fu s a0 a1 a2) (fun x2 s1 => if z_ix a3 101 0 then z_let (z_up s1 a3 0 x2) (fun s3 => some (vI 0, s3)) else none) (fun s4 => some (vI 1, s4)) (fun s6 => some (vI 2, s6)) else none
theorem gL_sign {l : Launch} {K : z_K} (hst : l.stackTraces = false) (fu : Nat) (s : z_M) (a0 : Int) (a1 : Int) (a2 : Int) (a3 : Int) : z_D l K mL_sign 8 194 2 12 [vR a0, vI a1, vI a2, vR a3] s (fL_sign fu s a0 a1 a2 a3) := by
  refine z_D_of (lv := [vR a0, vI a1, vI a2, vR a3, vU]) hst z_mL_sign rfl ?_ (Nat.le_of_ble_eq_true rfl) rfl
  unfold fL_sign
  refine G_aload_n (x := a3) (pc := 0) dL_sign_0 rfl ?_
  refine G_iconst (pc := 1) dL_sign_1 ?_
  refine G_aload_n (x := a0) (pc := 2) dL_sign_2 rfl ?_
  refine G_iload_n (x := a1) (pc := 3) dL_sign_3 rfl ?_
  refine G_iload_n (x := a2) (pc := 4) dL_sign_4 rfl ?_
  refine G_ccI (as := [vI a1, vI a2]) (st := [vI 0, vR a3]) (c := 11) (bc2 := 0) (bs2 := 0) (pc := 5) dL_sign_5 z_mX11_sign z_vX11_sign z_wL_34 (gX11_sign hst fu s a0 a1 a2) rfl rfl (by decide) rfl rfl ⟨by decide, by decide, by decide, by decide, Nat.le_of_ble_eq_true rfl⟩ (fun x2 s1 => ?_) (fun s4 => GX_1 (x := 0) rfl (Or.inl rfl) z_wL_25 (by decide) (by decide) (fun q5 => ?_)) (fun s6 => GX_2 (x := 1) (x2 := 0) rfl (Or.inr ⟨rfl, rfl⟩) z_wL_13 z_wL_25 (by decide) (by decide) (by decide) (fun q7 => ?_))
  · refine G_i2l (pc := 8) dL_sign_8 ?_
    refine G_last (pc := 9) dL_sign_9 (fun s3 => ?_)
    refine G_goto (tgt := 21) (pc := 10) dL_sign_10 ?_
    refine G_iconst (pc := 21) dL_sign_21 ?_
    exact G_iret (pc := 22) dL_sign_22
  · refine G_xastore (lv' := [vR a0, vI a1, vI a2, vR a3, vA q5]) (pc := 13) dL_sign_13 rfl ?_
    refine G_iconst (pc := 15) dL_sign_15 ?_
    exact G_iret (pc := 16) dL_sign_16
  · refine G_xastore (lv' := [vR a0, vI a1, vI a2, vR a3, vA q7]) (pc := 17) dL_sign_17 rfl ?_
    refine G_iconst (pc := 19) dL_sign_19 ?_
    exact G_iret (pc := 20) dL_sign_20
def fL_line (fu : Nat) (s : z_M) (a0 : Int) (a1 : Int) (a2 : Int) (a3 : Int) : z_O := if z_ob a0 11 then z_cI (fX11_line fu s a0 a1 a2) (fun x2 s1 => if z_ix a3 101 0 then z_let (z_up s1 a3 0 x2) (fun s3 => some (vI 0, s3)) else none) (fun s4 => some (vI 1, s4)) (fun s6 => some (vI 2, s6)) else none
theorem gL_line {l : Launch} {K : z_K} (hst : l.stackTraces = false) (fu : Nat) (s : z_M) (a0 : Int) (a1 : Int) (a2 : Int) (a3 : Int) : z_D l K mL_line 8 194 2 12 [vR a0, vI a1, vI a2, vR a3] s (fL_line fu s a0 a1 a2 a3) := by
  refine z_D_of (lv := [vR a0, vI a1, vI a2, vR a3, vU]) hst z_mL_line rfl ?_ (Nat.le_of_ble_eq_true rfl) rfl
  unfold fL_line
  refine G_aload_n (x := a3) (pc := 0) dL_line_0 rfl ?_
  refine G_iconst (pc := 1) dL_line_1 ?_
  refine G_aload_n (x := a0) (pc := 2) dL_line_2 rfl ?_
  refine G_iload_n (x := a1) (pc := 3) dL_line_3 rfl ?_
  refine G_iload_n (x := a2) (pc := 4) dL_line_4 rfl ?_
  refine G_ccI (as := [vI a1, vI a2]) (st := [vI 0, vR a3]) (c := 11) (bc2 := 0) (bs2 := 0) (pc := 5) dL_line_5 z_mX11_line z_vX11_line z_wL_37 (gX11_line hst fu s a0 a1 a2) rfl rfl (by decide) rfl rfl ⟨by decide, by decide, by decide, by decide, Nat.le_of_ble_eq_true rfl⟩ (fun x2 s1 => ?_) (fun s4 => GX_1 (x := 0) rfl (Or.inl rfl) z_wL_25 (by decide) (by decide) (fun q5 => ?_)) (fun s6 => GX_2 (x := 1) (x2 := 0) rfl (Or.inr ⟨rfl, rfl⟩) z_wL_13 z_wL_25 (by decide) (by decide) (by decide) (fun q7 => ?_))
  · refine G_i2l (pc := 8) dL_line_8 ?_
    refine G_last (pc := 9) dL_line_9 (fun s3 => ?_)
    refine G_goto (tgt := 21) (pc := 10) dL_line_10 ?_
    refine G_iconst (pc := 21) dL_line_21 ?_
    exact G_iret (pc := 22) dL_line_22
  · refine G_xastore (lv' := [vR a0, vI a1, vI a2, vR a3, vA q5]) (pc := 13) dL_line_13 rfl ?_
    refine G_iconst (pc := 15) dL_line_15 ?_
    exact G_iret (pc := 16) dL_line_16
  · refine G_xastore (lv' := [vR a0, vI a1, vI a2, vR a3, vA q7]) (pc := 17) dL_line_17 rfl ?_
    refine G_iconst (pc := 19) dL_line_19 ?_
    exact G_iret (pc := 20) dL_line_20
def fL_block (fu : Nat) (s : z_M) (a0 : Int) (a1 : Int) (a2 : Int) (a3 : Int) : z_O := if z_ob a0 11 then z_cI (fX11_block fu s a0 a1 a2) (fun x2 s1 => if z_ix a3 101 0 then z_let (z_up s1 a3 0 x2) (fun s3 => some (vI 0, s3)) else none) (fun s4 => some (vI 1, s4)) (fun s6 => some (vI 2, s6)) else none
theorem gL_block {l : Launch} {K : z_K} (hst : l.stackTraces = false) (fu : Nat) (s : z_M) (a0 : Int) (a1 : Int) (a2 : Int) (a3 : Int) : z_D l K mL_block 8 195 2 12 [vR a0, vI a1, vI a2, vR a3] s (fL_block fu s a0 a1 a2 a3) := by
  refine z_D_of (lv := [vR a0, vI a1, vI a2, vR a3, vU]) hst z_mL_block rfl ?_ (Nat.le_of_ble_eq_true rfl) rfl
  unfold fL_block
  refine G_aload_n (x := a3) (pc := 0) dL_block_0 rfl ?_
  refine G_iconst (pc := 1) dL_block_1 ?_
  refine G_aload_n (x := a0) (pc := 2) dL_block_2 rfl ?_
  refine G_iload_n (x := a1) (pc := 3) dL_block_3 rfl ?_
  refine G_iload_n (x := a2) (pc := 4) dL_block_4 rfl ?_
  refine G_ccI (as := [vI a1, vI a2]) (st := [vI 0, vR a3]) (c := 11) (bc2 := 0) (bs2 := 0) (pc := 5) dL_block_5 z_mX11_block z_vX11_block z_wL_40 (gX11_block hst fu s a0 a1 a2) rfl rfl (by decide) rfl rfl ⟨by decide, by decide, by decide, by decide, Nat.le_of_ble_eq_true rfl⟩ (fun x2 s1 => ?_) (fun s4 => GX_1 (x := 0) rfl (Or.inl rfl) z_wL_25 (by decide) (by decide) (fun q5 => ?_)) (fun s6 => GX_2 (x := 1) (x2 := 0) rfl (Or.inr ⟨rfl, rfl⟩) z_wL_13 z_wL_25 (by decide) (by decide) (by decide) (fun q7 => ?_))
  · refine G_i2l (pc := 8) dL_block_8 ?_
    refine G_last (pc := 9) dL_block_9 (fun s3 => ?_)
    refine G_goto (tgt := 21) (pc := 10) dL_block_10 ?_
    refine G_iconst (pc := 21) dL_block_21 ?_
    exact G_iret (pc := 22) dL_block_22
  · refine G_xastore (lv' := [vR a0, vI a1, vI a2, vR a3, vA q5]) (pc := 13) dL_block_13 rfl ?_
    refine G_iconst (pc := 15) dL_block_15 ?_
    exact G_iret (pc := 16) dL_block_16
  · refine G_xastore (lv' := [vR a0, vI a1, vI a2, vR a3, vA q7]) (pc := 17) dL_block_17 rfl ?_
    refine G_iconst (pc := 19) dL_block_19 ?_
    exact G_iret (pc := 20) dL_block_20
def fL_reading (fu : Nat) (s : z_M) (a0 : Int) (a1 : Int) (a2 : Int) (a3 : Int) (a4 : Int) (a5 : Int) : z_O := if z_ob a0 11 then z_cI (fX11_reading fu s a0 a1 a2 a3 a4) (fun x2 s1 => if z_ix a5 101 0 then z_let (z_up s1 a5 0 x2) (fun s3 => some (vI 0, s3)) else none) (fun s4 => some (vI 1, s4)) (fun s6 => some (vI 2, s6)) else none
theorem gL_reading {l : Launch} {K : z_K} (hst : l.stackTraces = false) (fu : Nat) (s : z_M) (a0 : Int) (a1 : Int) (a2 : Int) (a3 : Int) (a4 : Int) (a5 : Int) : z_D l K mL_reading 8 197 4 24 [vR a0, vI a1, vI a2, vI a3, vI a4, vR a5] s (fL_reading fu s a0 a1 a2 a3 a4 a5) := by
  refine z_D_of (lv := [vR a0, vI a1, vI a2, vI a3, vI a4, vR a5, vU]) hst z_mL_reading rfl ?_ (Nat.le_of_ble_eq_true rfl) rfl
  unfold fL_reading
  refine G_aload (x := a5) (pc := 0) dL_reading_0 rfl ?_
  refine G_iconst (pc := 2) dL_reading_2 ?_
  refine G_aload_n (x := a0) (pc := 3) dL_reading_3 rfl ?_
  refine G_iload_n (x := a1) (pc := 4) dL_reading_4 rfl ?_
  refine G_iload_n (x := a2) (pc := 5) dL_reading_5 rfl ?_
  refine G_iload_n (x := a3) (pc := 6) dL_reading_6 rfl ?_
  refine G_iload (x := a4) (pc := 7) dL_reading_7 rfl ?_
  refine G_ccI (as := [vI a1, vI a2, vI a3, vI a4]) (st := [vI 0, vR a5]) (c := 11) (bc2 := 0) (bs2 := 0) (pc := 9) dL_reading_9 z_mX11_reading z_vX11_reading z_wL_43 (gX11_reading hst fu s a0 a1 a2 a3 a4) rfl rfl (by decide) rfl rfl ⟨by decide, by decide, by decide, by decide, Nat.le_of_ble_eq_true rfl⟩ (fun x2 s1 => ?_) (fun s4 => GX_1 (x := 0) rfl (Or.inl rfl) z_wL_25 (by decide) (by decide) (fun q5 => ?_)) (fun s6 => GX_2 (x := 1) (x2 := 0) rfl (Or.inr ⟨rfl, rfl⟩) z_wL_13 z_wL_25 (by decide) (by decide) (by decide) (fun q7 => ?_))
  · refine G_i2l (pc := 12) dL_reading_12 ?_
    refine G_last (pc := 13) dL_reading_13 (fun s3 => ?_)
    refine G_goto (tgt := 25) (pc := 14) dL_reading_14 ?_
    refine G_iconst (pc := 25) dL_reading_25 ?_
    exact G_iret (pc := 26) dL_reading_26
  · refine G_xastore (lv' := [vR a0, vI a1, vI a2, vI a3, vI a4, vR a5, vA q5]) (pc := 17) dL_reading_17 rfl ?_
    refine G_iconst (pc := 19) dL_reading_19 ?_
    exact G_iret (pc := 20) dL_reading_20
  · refine G_xastore (lv' := [vR a0, vI a1, vI a2, vI a3, vI a4, vR a5, vA q7]) (pc := 21) dL_reading_21 rfl ?_
    refine G_iconst (pc := 23) dL_reading_23 ?_
    exact G_iret (pc := 24) dL_reading_24
def fL_run (fu : Nat) (s : z_M) (a0 : Int) (a1 : Int) (a2 : Int) (a3 : Int) : z_O := if z_ob a0 11 then z_cI (fX11_run fu s a0 a1 a2) (fun x2 s1 => if z_ix a3 101 0 then z_let (z_up s1 a3 0 x2) (fun s3 => some (vI 0, s3)) else none) (fun _ => none) (fun s4 => some (vI 1, s4)) else none
theorem gL_run {l : Launch} {K : z_K} (hst : l.stackTraces = false) (fu : Nat) (s : z_M) (a0 : Int) (a1 : Int) (a2 : Int) (a3 : Int) : z_D l K mL_run 8 198 1 6 [vR a0, vI a1, vI a2, vR a3] s (fL_run fu s a0 a1 a2 a3) := by
  refine z_D_of (lv := [vR a0, vI a1, vI a2, vR a3, vU]) hst z_mL_run rfl ?_ (Nat.le_of_ble_eq_true rfl) rfl
  unfold fL_run
  refine G_aload_n (x := a3) (pc := 0) dL_run_0 rfl ?_
  refine G_iconst (pc := 1) dL_run_1 ?_
  refine G_aload_n (x := a0) (pc := 2) dL_run_2 rfl ?_
  refine G_iload_n (x := a1) (pc := 3) dL_run_3 rfl ?_
  refine G_iload_n (x := a2) (pc := 4) dL_run_4 rfl ?_
  refine G_ccI (as := [vI a1, vI a2]) (st := [vI 0, vR a3]) (c := 11) (bc2 := 0) (bs2 := 0) (pc := 5) dL_run_5 z_mX11_run z_vX11_run z_wL_47 (gX11_run hst fu s a0 a1 a2) rfl rfl (by decide) rfl rfl ⟨by decide, by decide, by decide, by decide, Nat.le_of_ble_eq_true rfl⟩ (fun x2 s1 => ?_) (fun _ h => absurd rfl h) (fun s4 => GX_1 (x := 1) rfl (Or.inr rfl) z_wL_13 (by decide) (by decide) (fun q5 => ?_))
  · refine G_i2l (pc := 8) dL_run_8 ?_
    refine G_last (pc := 9) dL_run_9 (fun s3 => ?_)
    refine G_goto (tgt := 17) (pc := 10) dL_run_10 ?_
    refine G_iconst (pc := 17) dL_run_17 ?_
    exact G_iret (pc := 18) dL_run_18
  · refine G_xastore (lv' := [vR a0, vI a1, vI a2, vR a3, vA q5]) (pc := 13) dL_run_13 rfl ?_
    refine G_iconst (pc := 15) dL_run_15 ?_
    exact G_iret (pc := 16) dL_run_16
def fL_at (fu : Nat) (s : z_M) (a0 : Int) (a1 : Int) (a2 : Int) (a3 : Int) : z_O := if z_ob a0 11 then z_cI (fX11_at fu s a0 a1 a2) (fun x2 s1 => if z_ix a3 101 0 then z_let (z_up s1 a3 0 x2) (fun s3 => some (vI 0, s3)) else none) (fun s4 => some (vI 1, s4)) (fun _ => none) else none
theorem gL_at {l : Launch} {K : z_K} (hst : l.stackTraces = false) (fu : Nat) (s : z_M) (a0 : Int) (a1 : Int) (a2 : Int) (a3 : Int) : z_D l K mL_at 8 194 1 6 [vR a0, vI a1, vI a2, vR a3] s (fL_at fu s a0 a1 a2 a3) := by
  refine z_D_of (lv := [vR a0, vI a1, vI a2, vR a3, vU]) hst z_mL_at rfl ?_ (Nat.le_of_ble_eq_true rfl) rfl
  unfold fL_at
  refine G_aload_n (x := a3) (pc := 0) dL_at_0 rfl ?_
  refine G_iconst (pc := 1) dL_at_1 ?_
  refine G_aload_n (x := a0) (pc := 2) dL_at_2 rfl ?_
  refine G_iload_n (x := a1) (pc := 3) dL_at_3 rfl ?_
  refine G_iload_n (x := a2) (pc := 4) dL_at_4 rfl ?_
  refine G_ccI (as := [vI a1, vI a2]) (st := [vI 0, vR a3]) (c := 11) (bc2 := 0) (bs2 := 0) (pc := 5) dL_at_5 z_mX11_at z_vX11_at z_wL_50 (gX11_at hst fu s a0 a1 a2) rfl rfl (by decide) rfl rfl ⟨by decide, by decide, by decide, by decide, Nat.le_of_ble_eq_true rfl⟩ (fun x2 s1 => ?_) (fun s4 => GX_1 (x := 0) rfl (Or.inl rfl) z_wL_25 (by decide) (by decide) (fun q5 => ?_)) (fun _ h => absurd rfl h)
  · refine G_i2l (pc := 8) dL_at_8 ?_
    refine G_last (pc := 9) dL_at_9 (fun s3 => ?_)
    refine G_goto (tgt := 17) (pc := 10) dL_at_10 ?_
    refine G_iconst (pc := 17) dL_at_17 ?_
    exact G_iret (pc := 18) dL_at_18
  · refine G_xastore (lv' := [vR a0, vI a1, vI a2, vR a3, vA q5]) (pc := 13) dL_at_13 rfl ?_
    refine G_iconst (pc := 15) dL_at_15 ?_
    exact G_iret (pc := 16) dL_at_16
def fL_ends_J15 (fu : Nat) (s : z_M) (t0 : Int) (t1 : Int) (t2 : Int) : z_O := if z_ix t0 101 t1 then z_let (z_up s t0 t1 t2) (fun s3 => some (vI 0, s3)) else none
theorem gL_ends_J15 {l : Launch} {K : z_K} (hst : l.stackTraces = false) (fu : Nat) (s : z_M) (t0 : Int) (t1 : Int) (t2 : Int) : G l K mL_ends 8 193 0 0 15 [vU, vU, vU, vU] [vL t2, vI t1, vR t0] s (fL_ends_J15 fu s t0 t1 t2) := by
  unfold fL_ends_J15
  refine G_last (pc := 15) dL_ends_15 (fun s3 => ?_)
  refine G_goto (tgt := 22) (pc := 16) dL_ends_16 ?_
  refine G_iconst (pc := 22) dL_ends_22 ?_
  exact G_iret (pc := 23) dL_ends_23
def fL_ends (fu : Nat) (s : z_M) (a0 : Int) (a1 : Int) (a2 : Int) : z_O := if z_ob a0 11 then z_cI (fX11_ends fu s a0 a1) (fun x2 s1 => if (x2 : Int) = 0 then (fL_ends_J15 fu s1 a2 0 0) else (fL_ends_J15 fu s1 a2 0 1)) (fun s4 => some (vI 1, s4)) (fun _ => none) else none
theorem gL_ends {l : Launch} {K : z_K} (hst : l.stackTraces = false) (fu : Nat) (s : z_M) (a0 : Int) (a1 : Int) (a2 : Int) : z_D l K mL_ends 8 193 1 6 [vR a0, vI a1, vR a2] s (fL_ends fu s a0 a1 a2) := by
  refine z_D_of (lv := [vR a0, vI a1, vR a2, vU]) hst z_mL_ends rfl ?_ (Nat.le_of_ble_eq_true rfl) rfl
  unfold fL_ends
  refine G_aload_n (x := a2) (pc := 0) dL_ends_0 rfl ?_
  refine G_iconst (pc := 1) dL_ends_1 ?_
  refine G_aload_n (x := a0) (pc := 2) dL_ends_2 rfl ?_
  refine G_iload_n (x := a1) (pc := 3) dL_ends_3 rfl ?_
  refine G_ccI (as := [vI a1]) (st := [vI 0, vR a2]) (c := 11) (bc2 := 0) (bs2 := 0) (pc := 4) dL_ends_4 z_mX11_ends z_vX11_ends z_wL_53 (gX11_ends hst fu s a0 a1) rfl rfl (by decide) rfl rfl ⟨by decide, by decide, by decide, by decide, Nat.le_of_ble_eq_true rfl⟩ (fun x2 s1 => ?_) (fun s4 => GX_1 (x := 0) rfl (Or.inl rfl) z_wL_25 (by decide) (by decide) (fun q5 => ?_)) (fun _ h => absurd rfl h)
  · refine G_if_eq (tgt := 14) (pc := 7) dL_ends_7 ?_ ?_
    · refine G_lconst (y := 0) (pc := 14) dL_ends_14 ?_
      refine G_fg (lv2 := [vU, vU, vU, vU]) ⟨Or.inl rfl, Or.inl rfl, Or.inl rfl, Or.inl rfl, trivial⟩ ?_
      exact gL_ends_J15 hst fu s1 a2 0 0
    · refine G_lconst (y := 1) (pc := 10) dL_ends_10 ?_
      refine G_goto (tgt := 15) (pc := 11) dL_ends_11 ?_
      refine G_fg (lv2 := [vU, vU, vU, vU]) ⟨Or.inl rfl, Or.inl rfl, Or.inl rfl, Or.inl rfl, trivial⟩ ?_
      exact gL_ends_J15 hst fu s1 a2 0 1
  · refine G_xastore_n (lv' := [vR a0, vI a1, vR a2, vA q5]) (pc := 19) dL_ends_19 rfl ?_
    refine G_iconst (pc := 20) dL_ends_20 ?_
    exact G_iret (pc := 21) dL_ends_21
def fL_longOf (fu : Nat) (s : z_M) (a0 : Int) (a1 : Int) (a2 : Int) (a3 : Int) : z_O := if z_ob a0 11 then z_cI (fX11_longOf fu s a0 a1 a2) (fun x2 s1 => if z_ix a3 101 0 then z_let (z_up s1 a3 0 x2) (fun s3 => some (vI 0, s3)) else none) (fun s4 => some (vI 1, s4)) (fun s6 => some (vI 2, s6)) else none
theorem gL_longOf {l : Launch} {K : z_K} (hst : l.stackTraces = false) (fu : Nat) (s : z_M) (a0 : Int) (a1 : Int) (a2 : Int) (a3 : Int) : z_D l K mL_longOf 8 194 3 18 [vR a0, vI a1, vI a2, vR a3] s (fL_longOf fu s a0 a1 a2 a3) := by
  refine z_D_of (lv := [vR a0, vI a1, vI a2, vR a3, vU]) hst z_mL_longOf rfl ?_ (Nat.le_of_ble_eq_true rfl) rfl
  unfold fL_longOf
  refine G_aload_n (x := a3) (pc := 0) dL_longOf_0 rfl ?_
  refine G_iconst (pc := 1) dL_longOf_1 ?_
  refine G_aload_n (x := a0) (pc := 2) dL_longOf_2 rfl ?_
  refine G_iload_n (x := a1) (pc := 3) dL_longOf_3 rfl ?_
  refine G_iload_n (x := a2) (pc := 4) dL_longOf_4 rfl ?_
  refine G_ccI (as := [vI a1, vI a2]) (st := [vI 0, vR a3]) (c := 11) (bc2 := 0) (bs2 := 0) (pc := 5) dL_longOf_5 z_mX11_longOf z_vX11_longOf z_wL_57 (gX11_longOf hst fu s a0 a1 a2) rfl rfl (by decide) rfl rfl ⟨by decide, by decide, by decide, by decide, Nat.le_of_ble_eq_true rfl⟩ (fun x2 s1 => ?_) (fun s4 => GX_1 (x := 0) rfl (Or.inl rfl) z_wL_25 (by decide) (by decide) (fun q5 => ?_)) (fun s6 => GX_2 (x := 1) (x2 := 0) rfl (Or.inr ⟨rfl, rfl⟩) z_wL_13 z_wL_25 (by decide) (by decide) (by decide) (fun q7 => ?_))
  · refine G_i2l (pc := 8) dL_longOf_8 ?_
    refine G_last (pc := 9) dL_longOf_9 (fun s3 => ?_)
    refine G_goto (tgt := 21) (pc := 10) dL_longOf_10 ?_
    refine G_iconst (pc := 21) dL_longOf_21 ?_
    exact G_iret (pc := 22) dL_longOf_22
  · refine G_xastore (lv' := [vR a0, vI a1, vI a2, vR a3, vA q5]) (pc := 13) dL_longOf_13 rfl ?_
    refine G_iconst (pc := 15) dL_longOf_15 ?_
    exact G_iret (pc := 16) dL_longOf_16
  · refine G_xastore (lv' := [vR a0, vI a1, vI a2, vR a3, vA q7]) (pc := 17) dL_longOf_17 rfl ?_
    refine G_iconst (pc := 19) dL_longOf_19 ?_
    exact G_iret (pc := 20) dL_longOf_20
def fL_lines (fu : Nat) (s : z_M) (a0 : Int) (a1 : Int) (a2 : Int) (a3 : Int) : z_O := if z_ob a0 11 then z_cI (fX11_lines fu s a0 a1 a2) (fun x2 s1 => if z_ix a3 101 0 then z_let (z_up s1 a3 0 x2) (fun s3 => some (vI 0, s3)) else none) (fun _ => none) (fun s4 => some (vI 1, s4)) else none
theorem gL_lines {l : Launch} {K : z_K} (hst : l.stackTraces = false) (fu : Nat) (s : z_M) (a0 : Int) (a1 : Int) (a2 : Int) (a3 : Int) : z_D l K mL_lines 8 194 2 12 [vR a0, vI a1, vI a2, vR a3] s (fL_lines fu s a0 a1 a2 a3) := by
  refine z_D_of (lv := [vR a0, vI a1, vI a2, vR a3, vU]) hst z_mL_lines rfl ?_ (Nat.le_of_ble_eq_true rfl) rfl
  unfold fL_lines
  refine G_aload_n (x := a3) (pc := 0) dL_lines_0 rfl ?_
  refine G_iconst (pc := 1) dL_lines_1 ?_
  refine G_aload_n (x := a0) (pc := 2) dL_lines_2 rfl ?_
  refine G_iload_n (x := a1) (pc := 3) dL_lines_3 rfl ?_
  refine G_iload_n (x := a2) (pc := 4) dL_lines_4 rfl ?_
  refine G_ccI (as := [vI a1, vI a2]) (st := [vI 0, vR a3]) (c := 11) (bc2 := 0) (bs2 := 0) (pc := 5) dL_lines_5 z_mX11_lines z_vX11_lines z_wL_60 (gX11_lines hst fu s a0 a1 a2) rfl rfl (by decide) rfl rfl ⟨by decide, by decide, by decide, by decide, Nat.le_of_ble_eq_true rfl⟩ (fun x2 s1 => ?_) (fun _ h => absurd rfl h) (fun s4 => GX_1 (x := 1) rfl (Or.inr rfl) z_wL_13 (by decide) (by decide) (fun q5 => ?_))
  · refine G_i2l (pc := 8) dL_lines_8 ?_
    refine G_last (pc := 9) dL_lines_9 (fun s3 => ?_)
    refine G_goto (tgt := 17) (pc := 10) dL_lines_10 ?_
    refine G_iconst (pc := 17) dL_lines_17 ?_
    exact G_iret (pc := 18) dL_lines_18
  · refine G_xastore (lv' := [vR a0, vI a1, vI a2, vR a3, vA q5]) (pc := 13) dL_lines_13 rfl ?_
    refine G_iconst (pc := 15) dL_lines_15 ?_
    exact G_iret (pc := 16) dL_lines_16
def fL_least (fu : Nat) (s : z_M) (a0 : Int) (a1 : Int) (a2 : Int) : z_O := if z_ob a0 11 then z_cI (fX11_least fu s a0 a1) (fun x2 s1 => if z_ix a2 101 0 then z_let (z_up s1 a2 0 x2) (fun s3 => some (vI 0, s3)) else none) (fun _ => none) (fun s4 => some (vI 1, s4)) else none
theorem gL_least {l : Launch} {K : z_K} (hst : l.stackTraces = false) (fu : Nat) (s : z_M) (a0 : Int) (a1 : Int) (a2 : Int) : z_D l K mL_least 8 196 1 6 [vR a0, vI a1, vR a2] s (fL_least fu s a0 a1 a2) := by
  refine z_D_of (lv := [vR a0, vI a1, vR a2, vU]) hst z_mL_least rfl ?_ (Nat.le_of_ble_eq_true rfl) rfl
  unfold fL_least
  refine G_aload_n (x := a2) (pc := 0) dL_least_0 rfl ?_
  refine G_iconst (pc := 1) dL_least_1 ?_
  refine G_aload_n (x := a0) (pc := 2) dL_least_2 rfl ?_
  refine G_iload_n (x := a1) (pc := 3) dL_least_3 rfl ?_
  refine G_ccI (as := [vI a1]) (st := [vI 0, vR a2]) (c := 11) (bc2 := 0) (bs2 := 0) (pc := 4) dL_least_4 z_mX11_least z_vX11_least z_wL_63 (gX11_least hst fu s a0 a1) rfl rfl (by decide) rfl rfl ⟨by decide, by decide, by decide, by decide, Nat.le_of_ble_eq_true rfl⟩ (fun x2 s1 => ?_) (fun _ h => absurd rfl h) (fun s4 => GX_1 (x := 1) rfl (Or.inr rfl) z_wL_13 (by decide) (by decide) (fun q5 => ?_))
  · refine G_i2l (pc := 7) dL_least_7 ?_
    refine G_last (pc := 8) dL_least_8 (fun s3 => ?_)
    refine G_goto (tgt := 15) (pc := 9) dL_least_9 ?_
    refine G_iconst (pc := 15) dL_least_15 ?_
    exact G_iret (pc := 16) dL_least_16
  · refine G_xastore_n (lv' := [vR a0, vI a1, vR a2, vA q5]) (pc := 12) dL_least_12 rfl ?_
    refine G_iconst (pc := 13) dL_least_13 ?_
    exact G_iret (pc := 14) dL_least_14
def fL_marks (fu : Nat) (s : z_M) (a0 : Int) (a1 : Int) (a2 : Int) : z_O := if z_ob a0 11 then z_cI (fX11_marks fu s a0 a1) (fun x2 s1 => if z_ix a2 101 0 then z_let (z_up s1 a2 0 x2) (fun s3 => some (vI 0, s3)) else none) (fun _ => none) (fun s4 => some (vI 1, s4)) else none
theorem gL_marks {l : Launch} {K : z_K} (hst : l.stackTraces = false) (fu : Nat) (s : z_M) (a0 : Int) (a1 : Int) (a2 : Int) : z_D l K mL_marks 8 193 1 6 [vR a0, vI a1, vR a2] s (fL_marks fu s a0 a1 a2) := by
  refine z_D_of (lv := [vR a0, vI a1, vR a2, vU]) hst z_mL_marks rfl ?_ (Nat.le_of_ble_eq_true rfl) rfl
  unfold fL_marks
  refine G_aload_n (x := a2) (pc := 0) dL_marks_0 rfl ?_
  refine G_iconst (pc := 1) dL_marks_1 ?_
  refine G_aload_n (x := a0) (pc := 2) dL_marks_2 rfl ?_
  refine G_iload_n (x := a1) (pc := 3) dL_marks_3 rfl ?_
  refine G_ccI (as := [vI a1]) (st := [vI 0, vR a2]) (c := 11) (bc2 := 0) (bs2 := 0) (pc := 4) dL_marks_4 z_mX11_marks z_vX11_marks z_wL_66 (gX11_marks hst fu s a0 a1) rfl rfl (by decide) rfl rfl ⟨by decide, by decide, by decide, by decide, Nat.le_of_ble_eq_true rfl⟩ (fun x2 s1 => ?_) (fun _ h => absurd rfl h) (fun s4 => GX_1 (x := 1) rfl (Or.inr rfl) z_wL_13 (by decide) (by decide) (fun q5 => ?_))
  · refine G_i2l (pc := 7) dL_marks_7 ?_
    refine G_last (pc := 8) dL_marks_8 (fun s3 => ?_)
    refine G_goto (tgt := 15) (pc := 9) dL_marks_9 ?_
    refine G_iconst (pc := 15) dL_marks_15 ?_
    exact G_iret (pc := 16) dL_marks_16
  · refine G_xastore_n (lv' := [vR a0, vI a1, vR a2, vA q5]) (pc := 12) dL_marks_12 rfl ?_
    refine G_iconst (pc := 13) dL_marks_13 ?_
    exact G_iret (pc := 14) dL_marks_14
def fL_lend (fu : Nat) (s : z_M) (a0 : Int) (a1 : Int) (a2 : Int) : z_O := if z_ob a0 11 then z_cI (fX11_lend fu s a0 a1) (fun x2 s1 => if z_ix a2 101 0 then z_let (z_up s1 a2 0 x2) (fun s3 => some (vI 0, s3)) else none) (fun _ => none) (fun s4 => some (vI 1, s4)) else none
theorem gL_lend {l : Launch} {K : z_K} (hst : l.stackTraces = false) (fu : Nat) (s : z_M) (a0 : Int) (a1 : Int) (a2 : Int) : z_D l K mL_lend 8 197 1 6 [vR a0, vI a1, vR a2] s (fL_lend fu s a0 a1 a2) := by
  refine z_D_of (lv := [vR a0, vI a1, vR a2, vU]) hst z_mL_lend rfl ?_ (Nat.le_of_ble_eq_true rfl) rfl
  unfold fL_lend
  refine G_aload_n (x := a2) (pc := 0) dL_lend_0 rfl ?_
  refine G_iconst (pc := 1) dL_lend_1 ?_
  refine G_aload_n (x := a0) (pc := 2) dL_lend_2 rfl ?_
  refine G_iload_n (x := a1) (pc := 3) dL_lend_3 rfl ?_
  refine G_ccI (as := [vI a1]) (st := [vI 0, vR a2]) (c := 11) (bc2 := 0) (bs2 := 0) (pc := 4) dL_lend_4 z_mX11_lend z_vX11_lend z_wL_69 (gX11_lend hst fu s a0 a1) rfl rfl (by decide) rfl rfl ⟨by decide, by decide, by decide, by decide, Nat.le_of_ble_eq_true rfl⟩ (fun x2 s1 => ?_) (fun _ h => absurd rfl h) (fun s4 => GX_1 (x := 1) rfl (Or.inr rfl) z_wL_13 (by decide) (by decide) (fun q5 => ?_))
  · refine G_i2l (pc := 7) dL_lend_7 ?_
    refine G_last (pc := 8) dL_lend_8 (fun s3 => ?_)
    refine G_goto (tgt := 15) (pc := 9) dL_lend_9 ?_
    refine G_iconst (pc := 15) dL_lend_15 ?_
    exact G_iret (pc := 16) dL_lend_16
  · refine G_xastore_n (lv' := [vR a0, vI a1, vR a2, vA q5]) (pc := 12) dL_lend_12 rfl ?_
    refine G_iconst (pc := 13) dL_lend_13 ?_
    exact G_iret (pc := 14) dL_lend_14
def fL_nearest (fu : Nat) (s : z_M) (a0 : Int) (a1 : Int) (a2 : Int) : z_O := if z_ob a0 11 then z_cI (fX11_nearest fu s a0 a1) (fun x2 s1 => if z_ix a2 101 0 then z_let (z_up s1 a2 0 x2) (fun s3 => some (vI 0, s3)) else none) (fun _ => none) (fun s4 => some (vI 1, s4)) else none
theorem gL_nearest {l : Launch} {K : z_K} (hst : l.stackTraces = false) (fu : Nat) (s : z_M) (a0 : Int) (a1 : Int) (a2 : Int) : z_D l K mL_nearest 8 197 1 6 [vR a0, vI a1, vR a2] s (fL_nearest fu s a0 a1 a2) := by
  refine z_D_of (lv := [vR a0, vI a1, vR a2, vU]) hst z_mL_nearest rfl ?_ (Nat.le_of_ble_eq_true rfl) rfl
  unfold fL_nearest
  refine G_aload_n (x := a2) (pc := 0) dL_nearest_0 rfl ?_
  refine G_iconst (pc := 1) dL_nearest_1 ?_
  refine G_aload_n (x := a0) (pc := 2) dL_nearest_2 rfl ?_
  refine G_iload_n (x := a1) (pc := 3) dL_nearest_3 rfl ?_
  refine G_ccI (as := [vI a1]) (st := [vI 0, vR a2]) (c := 11) (bc2 := 0) (bs2 := 0) (pc := 4) dL_nearest_4 z_mX11_nearest z_vX11_nearest z_wL_72 (gX11_nearest hst fu s a0 a1) rfl rfl (by decide) rfl rfl ⟨by decide, by decide, by decide, by decide, Nat.le_of_ble_eq_true rfl⟩ (fun x2 s1 => ?_) (fun _ h => absurd rfl h) (fun s4 => GX_1 (x := 1) rfl (Or.inr rfl) z_wL_13 (by decide) (by decide) (fun q5 => ?_))
  · refine G_i2l (pc := 7) dL_nearest_7 ?_
    refine G_last (pc := 8) dL_nearest_8 (fun s3 => ?_)
    refine G_goto (tgt := 15) (pc := 9) dL_nearest_9 ?_
    refine G_iconst (pc := 15) dL_nearest_15 ?_
    exact G_iret (pc := 16) dL_nearest_16
  · refine G_xastore_n (lv' := [vR a0, vI a1, vR a2, vA q5]) (pc := 12) dL_nearest_12 rfl ?_
    refine G_iconst (pc := 13) dL_nearest_13 ?_
    exact G_iret (pc := 14) dL_nearest_14
def fL_partner (fu : Nat) (s : z_M) (a0 : Int) (a1 : Int) (a2 : Int) : z_O := if z_ob a0 11 then z_cI (fX11_partner fu s a0 a1) (fun x2 s1 => if z_ix a2 101 0 then z_let (z_up s1 a2 0 x2) (fun s3 => some (vI 0, s3)) else none) (fun s4 => some (vI 1, s4)) (fun _ => none) else none
theorem gL_partner {l : Launch} {K : z_K} (hst : l.stackTraces = false) (fu : Nat) (s : z_M) (a0 : Int) (a1 : Int) (a2 : Int) : z_D l K mL_partner 8 193 1 6 [vR a0, vI a1, vR a2] s (fL_partner fu s a0 a1 a2) := by
  refine z_D_of (lv := [vR a0, vI a1, vR a2, vU]) hst z_mL_partner rfl ?_ (Nat.le_of_ble_eq_true rfl) rfl
  unfold fL_partner
  refine G_aload_n (x := a2) (pc := 0) dL_partner_0 rfl ?_
  refine G_iconst (pc := 1) dL_partner_1 ?_
  refine G_aload_n (x := a0) (pc := 2) dL_partner_2 rfl ?_
  refine G_iload_n (x := a1) (pc := 3) dL_partner_3 rfl ?_
  refine G_ccI (as := [vI a1]) (st := [vI 0, vR a2]) (c := 11) (bc2 := 0) (bs2 := 0) (pc := 4) dL_partner_4 z_mX11_partner z_vX11_partner z_wL_75 (gX11_partner hst fu s a0 a1) rfl rfl (by decide) rfl rfl ⟨by decide, by decide, by decide, by decide, Nat.le_of_ble_eq_true rfl⟩ (fun x2 s1 => ?_) (fun s4 => GX_1 (x := 0) rfl (Or.inl rfl) z_wL_25 (by decide) (by decide) (fun q5 => ?_)) (fun _ h => absurd rfl h)
  · refine G_i2l (pc := 7) dL_partner_7 ?_
    refine G_last (pc := 8) dL_partner_8 (fun s3 => ?_)
    refine G_goto (tgt := 15) (pc := 9) dL_partner_9 ?_
    refine G_iconst (pc := 15) dL_partner_15 ?_
    exact G_iret (pc := 16) dL_partner_16
  · refine G_xastore_n (lv' := [vR a0, vI a1, vR a2, vA q5]) (pc := 12) dL_partner_12 rfl ?_
    refine G_iconst (pc := 13) dL_partner_13 ?_
    exact G_iret (pc := 14) dL_partner_14
def fL_side (fu : Nat) (s : z_M) (a0 : Int) (a1 : Int) (a2 : Int) (a3 : Int) (a4 : Int) : z_O := if z_ob a0 11 then z_cI (fX11_side fu s a0 a1 a2 a3) (fun x2 s1 => if z_ix a4 101 0 then z_let (z_up s1 a4 0 x2) (fun s3 => some (vI 0, s3)) else none) (fun s4 => some (vI 1, s4)) (fun s6 => some (vI 2, s6)) else none
theorem gL_side {l : Launch} {K : z_K} (hst : l.stackTraces = false) (fu : Nat) (s : z_M) (a0 : Int) (a1 : Int) (a2 : Int) (a3 : Int) (a4 : Int) : z_D l K mL_side 8 195 3 18 [vR a0, vI a1, vI a2, vI a3, vR a4] s (fL_side fu s a0 a1 a2 a3 a4) := by
  refine z_D_of (lv := [vR a0, vI a1, vI a2, vI a3, vR a4, vU]) hst z_mL_side rfl ?_ (Nat.le_of_ble_eq_true rfl) rfl
  unfold fL_side
  refine G_aload (x := a4) (pc := 0) dL_side_0 rfl ?_
  refine G_iconst (pc := 2) dL_side_2 ?_
  refine G_aload_n (x := a0) (pc := 3) dL_side_3 rfl ?_
  refine G_iload_n (x := a1) (pc := 4) dL_side_4 rfl ?_
  refine G_iload_n (x := a2) (pc := 5) dL_side_5 rfl ?_
  refine G_iload_n (x := a3) (pc := 6) dL_side_6 rfl ?_
  refine G_ccI (as := [vI a1, vI a2, vI a3]) (st := [vI 0, vR a4]) (c := 11) (bc2 := 0) (bs2 := 0) (pc := 7) dL_side_7 z_mX11_side z_vX11_side z_wL_78 (gX11_side hst fu s a0 a1 a2 a3) rfl rfl (by decide) rfl rfl ⟨by decide, by decide, by decide, by decide, Nat.le_of_ble_eq_true rfl⟩ (fun x2 s1 => ?_) (fun s4 => GX_1 (x := 0) rfl (Or.inl rfl) z_wL_25 (by decide) (by decide) (fun q5 => ?_)) (fun s6 => GX_2 (x := 1) (x2 := 0) rfl (Or.inr ⟨rfl, rfl⟩) z_wL_13 z_wL_25 (by decide) (by decide) (by decide) (fun q7 => ?_))
  · refine G_i2l (pc := 10) dL_side_10 ?_
    refine G_last (pc := 11) dL_side_11 (fun s3 => ?_)
    refine G_goto (tgt := 23) (pc := 12) dL_side_12 ?_
    refine G_iconst (pc := 23) dL_side_23 ?_
    exact G_iret (pc := 24) dL_side_24
  · refine G_xastore (lv' := [vR a0, vI a1, vI a2, vI a3, vR a4, vA q5]) (pc := 15) dL_side_15 rfl ?_
    refine G_iconst (pc := 17) dL_side_17 ?_
    exact G_iret (pc := 18) dL_side_18
  · refine G_xastore (lv' := [vR a0, vI a1, vI a2, vI a3, vR a4, vA q7]) (pc := 19) dL_side_19 rfl ?_
    refine G_iconst (pc := 21) dL_side_21 ?_
    exact G_iret (pc := 22) dL_side_22
def fL_gutter (fu : Nat) (s : z_M) (a0 : Int) (a1 : Int) (a2 : Int) : z_O := if z_ob a0 11 then z_cI (fX11_gutter fu s a0 a1) (fun x2 s1 => if z_ix a2 101 0 then z_let (z_up s1 a2 0 x2) (fun s3 => some (vI 0, s3)) else none) (fun s4 => some (vI 1, s4)) (fun _ => none) else none
theorem gL_gutter {l : Launch} {K : z_K} (hst : l.stackTraces = false) (fu : Nat) (s : z_M) (a0 : Int) (a1 : Int) (a2 : Int) : z_D l K mL_gutter 8 193 1 6 [vR a0, vI a1, vR a2] s (fL_gutter fu s a0 a1 a2) := by
  refine z_D_of (lv := [vR a0, vI a1, vR a2, vU]) hst z_mL_gutter rfl ?_ (Nat.le_of_ble_eq_true rfl) rfl
  unfold fL_gutter
  refine G_aload_n (x := a2) (pc := 0) dL_gutter_0 rfl ?_
  refine G_iconst (pc := 1) dL_gutter_1 ?_
  refine G_aload_n (x := a0) (pc := 2) dL_gutter_2 rfl ?_
  refine G_iload_n (x := a1) (pc := 3) dL_gutter_3 rfl ?_
  refine G_ccI (as := [vI a1]) (st := [vI 0, vR a2]) (c := 11) (bc2 := 0) (bs2 := 0) (pc := 4) dL_gutter_4 z_mX11_gutter z_vX11_gutter z_wL_82 (gX11_gutter hst fu s a0 a1) rfl rfl (by decide) rfl rfl ⟨by decide, by decide, by decide, by decide, Nat.le_of_ble_eq_true rfl⟩ (fun x2 s1 => ?_) (fun s4 => GX_1 (x := 0) rfl (Or.inl rfl) z_wL_25 (by decide) (by decide) (fun q5 => ?_)) (fun _ h => absurd rfl h)
  · refine G_i2l (pc := 7) dL_gutter_7 ?_
    refine G_last (pc := 8) dL_gutter_8 (fun s3 => ?_)
    refine G_goto (tgt := 15) (pc := 9) dL_gutter_9 ?_
    refine G_iconst (pc := 15) dL_gutter_15 ?_
    exact G_iret (pc := 16) dL_gutter_16
  · refine G_xastore_n (lv' := [vR a0, vI a1, vR a2, vA q5]) (pc := 12) dL_gutter_12 rfl ?_
    refine G_iconst (pc := 13) dL_gutter_13 ?_
    exact G_iret (pc := 14) dL_gutter_14
def fL_clash (fu : Nat) (s : z_M) (a0 : Int) (a1 : Int) (a2 : Int) : z_O := if z_ob a0 11 then z_cI (fX11_clash fu s a0 a1) (fun x2 s1 => if z_ix a2 101 0 then z_let (z_up s1 a2 0 x2) (fun s3 => some (vI 0, s3)) else none) (fun s4 => some (vI 1, s4)) (fun _ => none) else none
theorem gL_clash {l : Launch} {K : z_K} (hst : l.stackTraces = false) (fu : Nat) (s : z_M) (a0 : Int) (a1 : Int) (a2 : Int) : z_D l K mL_clash 8 193 1 6 [vR a0, vI a1, vR a2] s (fL_clash fu s a0 a1 a2) := by
  refine z_D_of (lv := [vR a0, vI a1, vR a2, vU]) hst z_mL_clash rfl ?_ (Nat.le_of_ble_eq_true rfl) rfl
  unfold fL_clash
  refine G_aload_n (x := a2) (pc := 0) dL_clash_0 rfl ?_
  refine G_iconst (pc := 1) dL_clash_1 ?_
  refine G_aload_n (x := a0) (pc := 2) dL_clash_2 rfl ?_
  refine G_iload_n (x := a1) (pc := 3) dL_clash_3 rfl ?_
  refine G_ccI (as := [vI a1]) (st := [vI 0, vR a2]) (c := 11) (bc2 := 0) (bs2 := 0) (pc := 4) dL_clash_4 z_mX11_clash z_vX11_clash z_wL_85 (gX11_clash hst fu s a0 a1) rfl rfl (by decide) rfl rfl ⟨by decide, by decide, by decide, by decide, Nat.le_of_ble_eq_true rfl⟩ (fun x2 s1 => ?_) (fun s4 => GX_1 (x := 0) rfl (Or.inl rfl) z_wL_25 (by decide) (by decide) (fun q5 => ?_)) (fun _ h => absurd rfl h)
  · refine G_i2l (pc := 7) dL_clash_7 ?_
    refine G_last (pc := 8) dL_clash_8 (fun s3 => ?_)
    refine G_goto (tgt := 15) (pc := 9) dL_clash_9 ?_
    refine G_iconst (pc := 15) dL_clash_15 ?_
    exact G_iret (pc := 16) dL_clash_16
  · refine G_xastore_n (lv' := [vR a0, vI a1, vR a2, vA q5]) (pc := 12) dL_clash_12 rfl ?_
    refine G_iconst (pc := 13) dL_clash_13 ?_
    exact G_iret (pc := 14) dL_clash_14
def fL_thick (fu : Nat) (s : z_M) (a0 : Int) (a1 : Int) (a2 : Int) (a3 : Int) : z_O := if z_ob a0 11 then z_cI (fX11_thick fu s a0 a1 a2) (fun x2 s1 => if z_ix a3 101 0 then z_let (z_up s1 a3 0 x2) (fun s3 => some (vI 0, s3)) else none) (fun s4 => some (vI 1, s4)) (fun s6 => some (vI 2, s6)) else none
theorem gL_thick {l : Launch} {K : z_K} (hst : l.stackTraces = false) (fu : Nat) (s : z_M) (a0 : Int) (a1 : Int) (a2 : Int) (a3 : Int) : z_D l K mL_thick 8 194 3 18 [vR a0, vI a1, vI a2, vR a3] s (fL_thick fu s a0 a1 a2 a3) := by
  refine z_D_of (lv := [vR a0, vI a1, vI a2, vR a3, vU]) hst z_mL_thick rfl ?_ (Nat.le_of_ble_eq_true rfl) rfl
  unfold fL_thick
  refine G_aload_n (x := a3) (pc := 0) dL_thick_0 rfl ?_
  refine G_iconst (pc := 1) dL_thick_1 ?_
  refine G_aload_n (x := a0) (pc := 2) dL_thick_2 rfl ?_
  refine G_iload_n (x := a1) (pc := 3) dL_thick_3 rfl ?_
  refine G_iload_n (x := a2) (pc := 4) dL_thick_4 rfl ?_
  refine G_ccI (as := [vI a1, vI a2]) (st := [vI 0, vR a3]) (c := 11) (bc2 := 0) (bs2 := 0) (pc := 5) dL_thick_5 z_mX11_thick z_vX11_thick z_wL_88 (gX11_thick hst fu s a0 a1 a2) rfl rfl (by decide) rfl rfl ⟨by decide, by decide, by decide, by decide, Nat.le_of_ble_eq_true rfl⟩ (fun x2 s1 => ?_) (fun s4 => GX_1 (x := 0) rfl (Or.inl rfl) z_wL_25 (by decide) (by decide) (fun q5 => ?_)) (fun s6 => GX_2 (x := 1) (x2 := 0) rfl (Or.inr ⟨rfl, rfl⟩) z_wL_13 z_wL_25 (by decide) (by decide) (by decide) (fun q7 => ?_))
  · refine G_i2l (pc := 8) dL_thick_8 ?_
    refine G_last (pc := 9) dL_thick_9 (fun s3 => ?_)
    refine G_goto (tgt := 21) (pc := 10) dL_thick_10 ?_
    refine G_iconst (pc := 21) dL_thick_21 ?_
    exact G_iret (pc := 22) dL_thick_22
  · refine G_xastore (lv' := [vR a0, vI a1, vI a2, vR a3, vA q5]) (pc := 13) dL_thick_13 rfl ?_
    refine G_iconst (pc := 15) dL_thick_15 ?_
    exact G_iret (pc := 16) dL_thick_16
  · refine G_xastore (lv' := [vR a0, vI a1, vI a2, vR a3, vA q7]) (pc := 17) dL_thick_17 rfl ?_
    refine G_iconst (pc := 19) dL_thick_19 ?_
    exact G_iret (pc := 20) dL_thick_20
def fL_pages (fu : Nat) (s : z_M) (a0 : Int) (a1 : Int) (a2 : Int) : z_O := if z_ob a0 11 then z_cI (fX11_pages fu s a0 a1) (fun x2 s1 => if z_ix a2 101 0 then z_let (z_up s1 a2 0 x2) (fun s3 => some (vI 0, s3)) else none) (fun _ => none) (fun s4 => some (vI 1, s4)) else none
theorem gL_pages {l : Launch} {K : z_K} (hst : l.stackTraces = false) (fu : Nat) (s : z_M) (a0 : Int) (a1 : Int) (a2 : Int) : z_D l K mL_pages 8 193 1 6 [vR a0, vI a1, vR a2] s (fL_pages fu s a0 a1 a2) := by
  refine z_D_of (lv := [vR a0, vI a1, vR a2, vU]) hst z_mL_pages rfl ?_ (Nat.le_of_ble_eq_true rfl) rfl
  unfold fL_pages
  refine G_aload_n (x := a2) (pc := 0) dL_pages_0 rfl ?_
  refine G_iconst (pc := 1) dL_pages_1 ?_
  refine G_aload_n (x := a0) (pc := 2) dL_pages_2 rfl ?_
  refine G_iload_n (x := a1) (pc := 3) dL_pages_3 rfl ?_
  refine G_ccI (as := [vI a1]) (st := [vI 0, vR a2]) (c := 11) (bc2 := 0) (bs2 := 0) (pc := 4) dL_pages_4 z_mX11_pages z_vX11_pages z_wL_91 (gX11_pages hst fu s a0 a1) rfl rfl (by decide) rfl rfl ⟨by decide, by decide, by decide, by decide, Nat.le_of_ble_eq_true rfl⟩ (fun x2 s1 => ?_) (fun _ h => absurd rfl h) (fun s4 => GX_1 (x := 1) rfl (Or.inr rfl) z_wL_13 (by decide) (by decide) (fun q5 => ?_))
  · refine G_i2l (pc := 7) dL_pages_7 ?_
    refine G_last (pc := 8) dL_pages_8 (fun s3 => ?_)
    refine G_goto (tgt := 15) (pc := 9) dL_pages_9 ?_
    refine G_iconst (pc := 15) dL_pages_15 ?_
    exact G_iret (pc := 16) dL_pages_16
  · refine G_xastore_n (lv' := [vR a0, vI a1, vR a2, vA q5]) (pc := 12) dL_pages_12 rfl ?_
    refine G_iconst (pc := 13) dL_pages_13 ?_
    exact G_iret (pc := 14) dL_pages_14
def fL_page (fu : Nat) (s : z_M) (a0 : Int) (a1 : Int) (a2 : Int) (a3 : Int) (a4 : Int) : z_O := if z_ob a0 11 then z_cI (fX11_page fu s a0 a1 a2 a3) (fun x2 s1 => if z_ix a4 101 0 then z_let (z_up s1 a4 0 x2) (fun s3 => some (vI 0, s3)) else none) (fun _ => none) (fun s4 => some (vI 1, s4)) else none
theorem gL_page {l : Launch} {K : z_K} (hst : l.stackTraces = false) (fu : Nat) (s : z_M) (a0 : Int) (a1 : Int) (a2 : Int) (a3 : Int) (a4 : Int) : z_D l K mL_page 8 197 2 12 [vR a0, vI a1, vI a2, vI a3, vR a4] s (fL_page fu s a0 a1 a2 a3 a4) := by
  refine z_D_of (lv := [vR a0, vI a1, vI a2, vI a3, vR a4, vU]) hst z_mL_page rfl ?_ (Nat.le_of_ble_eq_true rfl) rfl
  unfold fL_page
  refine G_aload (x := a4) (pc := 0) dL_page_0 rfl ?_
  refine G_iconst (pc := 2) dL_page_2 ?_
  refine G_aload_n (x := a0) (pc := 3) dL_page_3 rfl ?_
  refine G_iload_n (x := a1) (pc := 4) dL_page_4 rfl ?_
  refine G_iload_n (x := a2) (pc := 5) dL_page_5 rfl ?_
  refine G_iload_n (x := a3) (pc := 6) dL_page_6 rfl ?_
  refine G_ccI (as := [vI a1, vI a2, vI a3]) (st := [vI 0, vR a4]) (c := 11) (bc2 := 0) (bs2 := 0) (pc := 7) dL_page_7 z_mX11_page z_vX11_page z_wL_94 (gX11_page hst fu s a0 a1 a2 a3) rfl rfl (by decide) rfl rfl ⟨by decide, by decide, by decide, by decide, Nat.le_of_ble_eq_true rfl⟩ (fun x2 s1 => ?_) (fun _ h => absurd rfl h) (fun s4 => GX_1 (x := 1) rfl (Or.inr rfl) z_wL_13 (by decide) (by decide) (fun q5 => ?_))
  · refine G_i2l (pc := 10) dL_page_10 ?_
    refine G_last (pc := 11) dL_page_11 (fun s3 => ?_)
    refine G_goto (tgt := 19) (pc := 12) dL_page_12 ?_
    refine G_iconst (pc := 19) dL_page_19 ?_
    exact G_iret (pc := 20) dL_page_20
  · refine G_xastore (lv' := [vR a0, vI a1, vI a2, vI a3, vR a4, vA q5]) (pc := 15) dL_page_15 rfl ?_
    refine G_iconst (pc := 17) dL_page_17 ?_
    exact G_iret (pc := 18) dL_page_18
def fL_narrow (fu : Nat) (s : z_M) (a0 : Int) (a1 : Int) (a2 : Int) : z_O := if z_ob a0 11 then z_cI (fX11_narrow fu s a0 a1) (fun x2 s1 => if z_ix a2 101 0 then z_let (z_up s1 a2 0 x2) (fun s3 => some (vI 0, s3)) else none) (fun _ => none) (fun s4 => some (vI 1, s4)) else none
theorem gL_narrow {l : Launch} {K : z_K} (hst : l.stackTraces = false) (fu : Nat) (s : z_M) (a0 : Int) (a1 : Int) (a2 : Int) : z_D l K mL_narrow 8 196 1 6 [vR a0, vI a1, vR a2] s (fL_narrow fu s a0 a1 a2) := by
  refine z_D_of (lv := [vR a0, vI a1, vR a2, vU]) hst z_mL_narrow rfl ?_ (Nat.le_of_ble_eq_true rfl) rfl
  unfold fL_narrow
  refine G_aload_n (x := a2) (pc := 0) dL_narrow_0 rfl ?_
  refine G_iconst (pc := 1) dL_narrow_1 ?_
  refine G_aload_n (x := a0) (pc := 2) dL_narrow_2 rfl ?_
  refine G_iload_n (x := a1) (pc := 3) dL_narrow_3 rfl ?_
  refine G_ccI (as := [vI a1]) (st := [vI 0, vR a2]) (c := 11) (bc2 := 0) (bs2 := 0) (pc := 4) dL_narrow_4 z_mX11_narrow z_vX11_narrow z_wL_97 (gX11_narrow hst fu s a0 a1) rfl rfl (by decide) rfl rfl ⟨by decide, by decide, by decide, by decide, Nat.le_of_ble_eq_true rfl⟩ (fun x2 s1 => ?_) (fun _ h => absurd rfl h) (fun s4 => GX_1 (x := 1) rfl (Or.inr rfl) z_wL_13 (by decide) (by decide) (fun q5 => ?_))
  · refine G_i2l (pc := 7) dL_narrow_7 ?_
    refine G_last (pc := 8) dL_narrow_8 (fun s3 => ?_)
    refine G_goto (tgt := 15) (pc := 9) dL_narrow_9 ?_
    refine G_iconst (pc := 15) dL_narrow_15 ?_
    exact G_iret (pc := 16) dL_narrow_16
  · refine G_xastore_n (lv' := [vR a0, vI a1, vR a2, vA q5]) (pc := 12) dL_narrow_12 rfl ?_
    refine G_iconst (pc := 13) dL_narrow_13 ?_
    exact G_iret (pc := 14) dL_narrow_14
abbrev mL_law : z_Me := (yL_law, cL_law, 8, some .boolean, [])
def fL_law_J1338 (fu L : Nat) (xs : Nat → Int32) (s : z_M) (a1 : Int) (a2 : Int) (a3 : Int) (a4 : Int) (r : z_M → Int → z_O) (k : z_M → z_O) : z_O := z_let (z_w (a4 + 6)) (fun x28 => r s x28)
theorem gL_law_J1338 {l : Launch} {K : z_K} (hst : l.stackTraces = false) (fu F : Nat) (s : z_M) (a1 : Int) (a2 : Int) (a3 : Int) (a4 : Int) (r : z_M → Int → z_O) (k : z_M → z_O) (hr : ∀ (s : z_M) (a4 : Int), G l K mL_law 13 295 (4 * F) (24 * F) 23 [vA K.2.2.2.2.2.1, vR a1, vR a2, vR a3, vI a4, vU, vU, vU] [] s (r s a4)) (hk : ∀ (s : z_M), G l K mL_law 13 295 0 0 1344 [vA K.2.2.2.2.2.1, vU, vU, vU, vU, vU, vU, vU] [] s (k s)) : G l K mL_law 13 295 (4 * F) (24 * F) 1338 [vA K.2.2.2.2.2.1, vR a1, vR a2, vR a3, vI a4, vU, vU, vU] [] s (fL_law_J1338 fu K.2.2.2.2.2.2.1 K.2.2.2.2.2.2.2 s a1 a2 a3 a4 r k) := by
  unfold fL_law_J1338
  refine G_iinc (x := a4) (g := fun x28 => [vA K.2.2.2.2.2.1, vR a1, vR a2, vR a3, vI x28, vU, vU, vU]) (pc := 1338) dL_law_1338 rfl (fun _ => rfl) (fun x28 => ?_)
  refine G_goto (tgt := 23) (pc := 1341) dL_law_1341 ?_
  refine G_less (bc2 := (4 * F)) (bs2 := (24 * F)) (by omega) (by omega) ?_
  exact hr s x28
def fL_law_J188 (fu L : Nat) (xs : Nat → Int32) (s : z_M) (a1 : Int) (a2 : Int) (a3 : Int) (a4 : Int) (r : z_M → Int → z_O) (k : z_M → z_O) : z_O := z_let (z_w (a4 + 1)) (fun x4 => if 0 ≤ x4 ∧ x4 < (L : Int) then z_let (Int32.toInt (xs (Int.toNat x4))) (fun x5 => z_let (z_w (a4 + 2)) (fun x6 => if 0 ≤ x6 ∧ x6 < (L : Int) then z_let (Int32.toInt (xs (Int.toNat x6))) (fun x7 => z_let (z_w (a4 + 3)) (fun x8 => if 0 ≤ x8 ∧ x8 < (L : Int) then z_let (Int32.toInt (xs (Int.toNat x8))) (fun x9 => z_let (z_w (a4 + 4)) (fun x10 => if 0 ≤ x10 ∧ x10 < (L : Int) then z_let (Int32.toInt (xs (Int.toNat x10))) (fun x11 => z_let (z_w (a4 + 5)) (fun x12 => if 0 ≤ x12 ∧ x12 < (L : Int) then z_let (Int32.toInt (xs (Int.toNat x12))) (fun x13 => if z_ob a1 11 then z_bI (fX11_feed fu s a1 x5 x7 x9 x11 x13) (fun x15 s14 => z_let (z_w (a4 + 1)) (fun x16 => if 0 ≤ x16 ∧ x16 < (L : Int) then z_let (Int32.toInt (xs (Int.toNat x16))) (fun x17 => z_let (z_w (a4 + 2)) (fun x18 => if 0 ≤ x18 ∧ x18 < (L : Int) then z_let (Int32.toInt (xs (Int.toNat x18))) (fun x19 => z_let (z_w (a4 + 3)) (fun x20 => if 0 ≤ x20 ∧ x20 < (L : Int) then z_let (Int32.toInt (xs (Int.toNat x20))) (fun x21 => z_let (z_w (a4 + 4)) (fun x22 => if 0 ≤ x22 ∧ x22 < (L : Int) then z_let (Int32.toInt (xs (Int.toNat x22))) (fun x23 => z_let (z_w (a4 + 5)) (fun x24 => if 0 ≤ x24 ∧ x24 < (L : Int) then z_let (Int32.toInt (xs (Int.toNat x24))) (fun x25 => if z_ob a2 12 then z_bI (fX12_feed fu s14 a2 x17 x19 x21 x23 x25) (fun x27 s26 => fL_law_J1338 fu L xs s26 a1 a2 a3 a4 (fun w v4 => r w v4) k) else none) else none)) else none)) else none)) else none)) else none)) else none) else none)) else none)) else none)) else none)) else none)
theorem gL_law_J188 {l : Launch} {K : z_K} (hst : l.stackTraces = false) (fu F : Nat) (s : z_M) (a1 : Int) (a2 : Int) (a3 : Int) (a4 : Int) (r : z_M → Int → z_O) (k : z_M → z_O) (hr : ∀ (s : z_M) (a4 : Int), G l K mL_law 13 295 (4 * F) (24 * F) 23 [vA K.2.2.2.2.2.1, vR a1, vR a2, vR a3, vI a4, vU, vU, vU] [] s (r s a4)) (hk : ∀ (s : z_M), G l K mL_law 13 295 0 0 1344 [vA K.2.2.2.2.2.1, vU, vU, vU, vU, vU, vU, vU] [] s (k s)) : G l K mL_law 13 295 (4 * F) (24 * F) 188 [vA K.2.2.2.2.2.1, vR a1, vR a2, vR a3, vI a4, vU, vU, vU] [] s (fL_law_J188 fu K.2.2.2.2.2.2.1 K.2.2.2.2.2.2.2 s a1 a2 a3 a4 r k) := by
  unfold fL_law_J188
  refine G_aload_n (x := a1) (pc := 188) dL_law_188 rfl ?_
  refine G_sload_n (pc := 189) dL_law_189 rfl ?_
  refine G_iload (x := a4) (pc := 190) dL_law_190 rfl ?_
  refine G_iconst (pc := 192) dL_law_192 ?_
  refine G_iadd (pc := 193) dL_law_193 (fun x4 => ?_)
  refine G_sald (pc := 194) dL_law_194 (fun x5 => ?_)
  refine G_sload_n (pc := 195) dL_law_195 rfl ?_
  refine G_iload (x := a4) (pc := 196) dL_law_196 rfl ?_
  refine G_iconst (pc := 198) dL_law_198 ?_
  refine G_iadd (pc := 199) dL_law_199 (fun x6 => ?_)
  refine G_sald (pc := 200) dL_law_200 (fun x7 => ?_)
  refine G_sload_n (pc := 201) dL_law_201 rfl ?_
  refine G_iload (x := a4) (pc := 202) dL_law_202 rfl ?_
  refine G_iconst (pc := 204) dL_law_204 ?_
  refine G_iadd (pc := 205) dL_law_205 (fun x8 => ?_)
  refine G_sald (pc := 206) dL_law_206 (fun x9 => ?_)
  refine G_sload_n (pc := 207) dL_law_207 rfl ?_
  refine G_iload (x := a4) (pc := 208) dL_law_208 rfl ?_
  refine G_iconst (pc := 210) dL_law_210 ?_
  refine G_iadd (pc := 211) dL_law_211 (fun x10 => ?_)
  refine G_sald (pc := 212) dL_law_212 (fun x11 => ?_)
  refine G_sload_n (pc := 213) dL_law_213 rfl ?_
  refine G_iload (x := a4) (pc := 214) dL_law_214 rfl ?_
  refine G_iconst (pc := 216) dL_law_216 ?_
  refine G_iadd (pc := 217) dL_law_217 (fun x12 => ?_)
  refine G_sald (pc := 218) dL_law_218 (fun x13 => ?_)
  refine G_callVI (as := [vI x5, vI x7, vI x9, vI x11, vI x13]) (st := []) (c := 11) (bc2 := (4 * F)) (bs2 := (24 * F)) (pc := 219) dL_law_219 z_mX11_feed z_vX11_feed z_wL_104 (gX11_feed hst fu s a1 x5 x7 x9 x11 x13) rfl rfl (by decide) rfl rfl ⟨by decide, by decide, by omega, by omega, Nat.le_of_ble_eq_true rfl⟩ rfl (fun x15 s14 => ?_)
  refine G_popI (pc := 222) dL_law_222 ?_
  refine G_aload_n (x := a2) (pc := 223) dL_law_223 rfl ?_
  refine G_sload_n (pc := 224) dL_law_224 rfl ?_
  refine G_iload (x := a4) (pc := 225) dL_law_225 rfl ?_
  refine G_iconst (pc := 227) dL_law_227 ?_
  refine G_iadd (pc := 228) dL_law_228 (fun x16 => ?_)
  refine G_sald (pc := 229) dL_law_229 (fun x17 => ?_)
  refine G_sload_n (pc := 230) dL_law_230 rfl ?_
  refine G_iload (x := a4) (pc := 231) dL_law_231 rfl ?_
  refine G_iconst (pc := 233) dL_law_233 ?_
  refine G_iadd (pc := 234) dL_law_234 (fun x18 => ?_)
  refine G_sald (pc := 235) dL_law_235 (fun x19 => ?_)
  refine G_sload_n (pc := 236) dL_law_236 rfl ?_
  refine G_iload (x := a4) (pc := 237) dL_law_237 rfl ?_
  refine G_iconst (pc := 239) dL_law_239 ?_
  refine G_iadd (pc := 240) dL_law_240 (fun x20 => ?_)
  refine G_sald (pc := 241) dL_law_241 (fun x21 => ?_)
  refine G_sload_n (pc := 242) dL_law_242 rfl ?_
  refine G_iload (x := a4) (pc := 243) dL_law_243 rfl ?_
  refine G_iconst (pc := 245) dL_law_245 ?_
  refine G_iadd (pc := 246) dL_law_246 (fun x22 => ?_)
  refine G_sald (pc := 247) dL_law_247 (fun x23 => ?_)
  refine G_sload_n (pc := 248) dL_law_248 rfl ?_
  refine G_iload (x := a4) (pc := 249) dL_law_249 rfl ?_
  refine G_iconst (pc := 251) dL_law_251 ?_
  refine G_iadd (pc := 252) dL_law_252 (fun x24 => ?_)
  refine G_sald (pc := 253) dL_law_253 (fun x25 => ?_)
  refine G_callVI (as := [vI x17, vI x19, vI x21, vI x23, vI x25]) (st := []) (c := 12) (bc2 := (4 * F)) (bs2 := (24 * F)) (pc := 254) dL_law_254 z_mX12_feed z_vX12_feed z_wL_108 (gX12_feed hst fu s14 a2 x17 x19 x21 x23 x25) rfl rfl (by decide) rfl rfl ⟨by decide, by decide, by omega, by omega, Nat.le_of_ble_eq_true rfl⟩ rfl (fun x27 s26 => ?_)
  refine G_popI (pc := 257) dL_law_257 ?_
  refine G_goto (tgt := 1338) (pc := 258) dL_law_258 ?_
  refine G_less (bc2 := (4 * F)) (bs2 := (24 * F)) (by omega) (by omega) ?_
  exact gL_law_J1338 hst fu F s26 a1 a2 a3 a4 _ _ (fun w v4 => hr w v4) hk
def fL_law_J261 (fu L : Nat) (xs : Nat → Int32) (s : z_M) (a1 : Int) (a2 : Int) (a3 : Int) (a4 : Int) (r : z_M → Int → z_O) (k : z_M → z_O) : z_O := z_let (z_w (a4 + 1)) (fun x29 => if 0 ≤ x29 ∧ x29 < (L : Int) then z_let (Int32.toInt (xs (Int.toNat x29))) (fun x30 => z_bI (fL_text fu s a1 x30 a3) (fun x32 s31 => z_let (z_w (a4 + 1)) (fun x33 => if 0 ≤ x33 ∧ x33 < (L : Int) then z_let (Int32.toInt (xs (Int.toNat x33))) (fun x34 => if z_ob a2 12 then z_bI (fX12_text fu s31 a2 x34) (fun x36 s35 => fL_law_J1338 fu L xs s35 a1 a2 a3 a4 (fun w v4 => r w v4) k) else none) else none))) else none)
theorem gL_law_J261 {l : Launch} {K : z_K} (hst : l.stackTraces = false) (fu F : Nat) (s : z_M) (a1 : Int) (a2 : Int) (a3 : Int) (a4 : Int) (r : z_M → Int → z_O) (k : z_M → z_O) (hr : ∀ (s : z_M) (a4 : Int), G l K mL_law 13 295 (4 * F) (24 * F) 23 [vA K.2.2.2.2.2.1, vR a1, vR a2, vR a3, vI a4, vU, vU, vU] [] s (r s a4)) (hk : ∀ (s : z_M), G l K mL_law 13 295 0 0 1344 [vA K.2.2.2.2.2.1, vU, vU, vU, vU, vU, vU, vU] [] s (k s)) : G l K mL_law 13 295 (4 * F + 1) (24 * F + 6) 261 [vA K.2.2.2.2.2.1, vR a1, vR a2, vR a3, vI a4, vU, vU, vU] [] s (fL_law_J261 fu K.2.2.2.2.2.2.1 K.2.2.2.2.2.2.2 s a1 a2 a3 a4 r k) := by
  unfold fL_law_J261
  refine G_aload_n (x := a1) (pc := 261) dL_law_261 rfl ?_
  refine G_sload_n (pc := 262) dL_law_262 rfl ?_
  refine G_iload (x := a4) (pc := 263) dL_law_263 rfl ?_
  refine G_iconst (pc := 265) dL_law_265 ?_
  refine G_iadd (pc := 266) dL_law_266 (fun x29 => ?_)
  refine G_sald (pc := 267) dL_law_267 (fun x30 => ?_)
  refine G_aload_n (x := a3) (pc := 268) dL_law_268 rfl ?_
  refine G_callSI (as := [vR a1, vI x30, vR a3]) (st := []) (bc2 := (4 * F)) (bs2 := (24 * F)) (pc := 269) dL_law_269 z_mL_text z_sL_text z_wL_109 (gL_text hst fu s a1 x30 a3) rfl rfl ⟨by decide, by decide, by omega, by omega, Nat.le_of_ble_eq_true rfl⟩ rfl (fun x32 s31 => ?_)
  refine G_istore (lv' := [vA K.2.2.2.2.2.1, vR a1, vR a2, vR a3, vI a4, vI x32, vU, vU]) (pc := 272) dL_law_272 rfl ?_
  refine G_aload_n (x := a2) (pc := 274) dL_law_274 rfl ?_
  refine G_sload_n (pc := 275) dL_law_275 rfl ?_
  refine G_iload (x := a4) (pc := 276) dL_law_276 rfl ?_
  refine G_iconst (pc := 278) dL_law_278 ?_
  refine G_iadd (pc := 279) dL_law_279 (fun x33 => ?_)
  refine G_sald (pc := 280) dL_law_280 (fun x34 => ?_)
  refine G_callVI (as := [vI x34]) (st := []) (c := 12) (bc2 := (4 * F)) (bs2 := (24 * F)) (pc := 281) dL_law_281 z_mX12_text z_vX12_text z_wL_114 (gX12_text hst fu s31 a2 x34) rfl rfl (by decide) rfl rfl ⟨by decide, by decide, by omega, by omega, Nat.le_of_ble_eq_true rfl⟩ rfl (fun x36 s35 => ?_)
  refine G_istore (lv' := [vA K.2.2.2.2.2.1, vR a1, vR a2, vR a3, vI a4, vI x32, vI x36, vU]) (pc := 284) dL_law_284 rfl ?_
  refine G_goto (tgt := 1338) (pc := 286) dL_law_286 ?_
  refine G_less (bc2 := (4 * F)) (bs2 := (24 * F)) (by omega) (by omega) ?_
  refine G_fg (lv2 := [vA K.2.2.2.2.2.1, vR a1, vR a2, vR a3, vI a4, vU, vU, vU]) ⟨Or.inr rfl, Or.inr rfl, Or.inr rfl, Or.inr rfl, Or.inr rfl, Or.inl rfl, Or.inl rfl, Or.inl rfl, trivial⟩ ?_
  exact gL_law_J1338 hst fu F s35 a1 a2 a3 a4 _ _ (fun w v4 => hr w v4) hk
def fL_law_J289 (fu L : Nat) (xs : Nat → Int32) (s : z_M) (a1 : Int) (a2 : Int) (a3 : Int) (a4 : Int) (r : z_M → Int → z_O) (k : z_M → z_O) : z_O := z_let (z_w (a4 + 1)) (fun x37 => if 0 ≤ x37 ∧ x37 < (L : Int) then z_let (Int32.toInt (xs (Int.toNat x37))) (fun x38 => z_bI (fL_more fu s a1 x38 a3) (fun x40 s39 => z_let (z_w (a4 + 1)) (fun x41 => if 0 ≤ x41 ∧ x41 < (L : Int) then z_let (Int32.toInt (xs (Int.toNat x41))) (fun x42 => if z_ob a2 12 then z_bI (fX12_more_ fu s39 a2 x42) (fun x44 s43 => fL_law_J1338 fu L xs s43 a1 a2 a3 a4 (fun w v4 => r w v4) k) else none) else none))) else none)
theorem gL_law_J289 {l : Launch} {K : z_K} (hst : l.stackTraces = false) (fu F : Nat) (s : z_M) (a1 : Int) (a2 : Int) (a3 : Int) (a4 : Int) (r : z_M → Int → z_O) (k : z_M → z_O) (hr : ∀ (s : z_M) (a4 : Int), G l K mL_law 13 295 (4 * F) (24 * F) 23 [vA K.2.2.2.2.2.1, vR a1, vR a2, vR a3, vI a4, vU, vU, vU] [] s (r s a4)) (hk : ∀ (s : z_M), G l K mL_law 13 295 0 0 1344 [vA K.2.2.2.2.2.1, vU, vU, vU, vU, vU, vU, vU] [] s (k s)) : G l K mL_law 13 295 (4 * F + 1) (24 * F + 6) 289 [vA K.2.2.2.2.2.1, vR a1, vR a2, vR a3, vI a4, vU, vU, vU] [] s (fL_law_J289 fu K.2.2.2.2.2.2.1 K.2.2.2.2.2.2.2 s a1 a2 a3 a4 r k) := by
  unfold fL_law_J289
  refine G_aload_n (x := a1) (pc := 289) dL_law_289 rfl ?_
  refine G_sload_n (pc := 290) dL_law_290 rfl ?_
  refine G_iload (x := a4) (pc := 291) dL_law_291 rfl ?_
  refine G_iconst (pc := 293) dL_law_293 ?_
  refine G_iadd (pc := 294) dL_law_294 (fun x37 => ?_)
  refine G_sald (pc := 295) dL_law_295 (fun x38 => ?_)
  refine G_aload_n (x := a3) (pc := 296) dL_law_296 rfl ?_
  refine G_callSI (as := [vR a1, vI x38, vR a3]) (st := []) (bc2 := (4 * F)) (bs2 := (24 * F)) (pc := 297) dL_law_297 z_mL_more z_sL_more z_wL_115 (gL_more hst fu s a1 x38 a3) rfl rfl ⟨by decide, by decide, by omega, by omega, Nat.le_of_ble_eq_true rfl⟩ rfl (fun x40 s39 => ?_)
  refine G_istore (lv' := [vA K.2.2.2.2.2.1, vR a1, vR a2, vR a3, vI a4, vI x40, vU, vU]) (pc := 300) dL_law_300 rfl ?_
  refine G_aload_n (x := a2) (pc := 302) dL_law_302 rfl ?_
  refine G_sload_n (pc := 303) dL_law_303 rfl ?_
  refine G_iload (x := a4) (pc := 304) dL_law_304 rfl ?_
  refine G_iconst (pc := 306) dL_law_306 ?_
  refine G_iadd (pc := 307) dL_law_307 (fun x41 => ?_)
  refine G_sald (pc := 308) dL_law_308 (fun x42 => ?_)
  refine G_callVI (as := [vI x42]) (st := []) (c := 12) (bc2 := (4 * F)) (bs2 := (24 * F)) (pc := 309) dL_law_309 z_mX12_more_ z_vX12_more_ z_wL_117 (gX12_more_ hst fu s39 a2 x42) rfl rfl (by decide) rfl rfl ⟨by decide, by decide, by omega, by omega, Nat.le_of_ble_eq_true rfl⟩ rfl (fun x44 s43 => ?_)
  refine G_istore (lv' := [vA K.2.2.2.2.2.1, vR a1, vR a2, vR a3, vI a4, vI x40, vI x44, vU]) (pc := 312) dL_law_312 rfl ?_
  refine G_goto (tgt := 1338) (pc := 314) dL_law_314 ?_
  refine G_less (bc2 := (4 * F)) (bs2 := (24 * F)) (by omega) (by omega) ?_
  refine G_fg (lv2 := [vA K.2.2.2.2.2.1, vR a1, vR a2, vR a3, vI a4, vU, vU, vU]) ⟨Or.inr rfl, Or.inr rfl, Or.inr rfl, Or.inr rfl, Or.inr rfl, Or.inl rfl, Or.inl rfl, Or.inl rfl, trivial⟩ ?_
  exact gL_law_J1338 hst fu F s43 a1 a2 a3 a4 _ _ (fun w v4 => hr w v4) hk
def fL_law_J317 (fu L : Nat) (xs : Nat → Int32) (s : z_M) (a1 : Int) (a2 : Int) (a3 : Int) (a4 : Int) (r : z_M → Int → z_O) (k : z_M → z_O) : z_O := if z_ob a1 11 then z_bI (fX11_fault fu s a1) (fun x46 s45 => if z_ob a2 12 then z_bI (fX12_fault fu s45 a2) (fun x48 s47 => fL_law_J1338 fu L xs s47 a1 a2 a3 a4 (fun w v4 => r w v4) k) else none) else none
theorem gL_law_J317 {l : Launch} {K : z_K} (hst : l.stackTraces = false) (fu F : Nat) (s : z_M) (a1 : Int) (a2 : Int) (a3 : Int) (a4 : Int) (r : z_M → Int → z_O) (k : z_M → z_O) (hr : ∀ (s : z_M) (a4 : Int), G l K mL_law 13 295 (4 * F) (24 * F) 23 [vA K.2.2.2.2.2.1, vR a1, vR a2, vR a3, vI a4, vU, vU, vU] [] s (r s a4)) (hk : ∀ (s : z_M), G l K mL_law 13 295 0 0 1344 [vA K.2.2.2.2.2.1, vU, vU, vU, vU, vU, vU, vU] [] s (k s)) : G l K mL_law 13 295 (4 * F) (24 * F) 317 [vA K.2.2.2.2.2.1, vR a1, vR a2, vR a3, vI a4, vU, vU, vU] [] s (fL_law_J317 fu K.2.2.2.2.2.2.1 K.2.2.2.2.2.2.2 s a1 a2 a3 a4 r k) := by
  unfold fL_law_J317
  refine G_aload_n (x := a1) (pc := 317) dL_law_317 rfl ?_
  refine G_callVI (as := []) (st := []) (c := 11) (bc2 := (4 * F)) (bs2 := (24 * F)) (pc := 318) dL_law_318 z_mX11_fault z_vX11_fault z_wL_118 (gX11_fault hst fu s a1) rfl rfl (by decide) rfl rfl ⟨by decide, by decide, by omega, by omega, Nat.le_of_ble_eq_true rfl⟩ rfl (fun x46 s45 => ?_)
  refine G_popI (pc := 321) dL_law_321 ?_
  refine G_aload_n (x := a2) (pc := 322) dL_law_322 rfl ?_
  refine G_callVI (as := []) (st := []) (c := 12) (bc2 := (4 * F)) (bs2 := (24 * F)) (pc := 323) dL_law_323 z_mX12_fault z_vX12_fault z_wL_122 (gX12_fault hst fu s45 a2) rfl rfl (by decide) rfl rfl ⟨by decide, by decide, by omega, by omega, Nat.le_of_ble_eq_true rfl⟩ rfl (fun x48 s47 => ?_)
  refine G_popI (pc := 326) dL_law_326 ?_
  refine G_goto (tgt := 1338) (pc := 327) dL_law_327 ?_
  refine G_less (bc2 := (4 * F)) (bs2 := (24 * F)) (by omega) (by omega) ?_
  exact gL_law_J1338 hst fu F s47 a1 a2 a3 a4 _ _ (fun w v4 => hr w v4) hk
def fL_law_J330 (fu L : Nat) (xs : Nat → Int32) (s : z_M) (a1 : Int) (a2 : Int) (a3 : Int) (a4 : Int) (r : z_M → Int → z_O) (k : z_M → z_O) : z_O := z_let (z_w (a4 + 1)) (fun x49 => if 0 ≤ x49 ∧ x49 < (L : Int) then z_let (Int32.toInt (xs (Int.toNat x49))) (fun x50 => z_let (z_w (a4 + 2)) (fun x51 => if 0 ≤ x51 ∧ x51 < (L : Int) then z_let (Int32.toInt (xs (Int.toNat x51))) (fun x52 => z_bI (fL_set fu s a1 x50 x52 a3) (fun x54 s53 => z_let (z_w (a4 + 1)) (fun x55 => if 0 ≤ x55 ∧ x55 < (L : Int) then z_let (Int32.toInt (xs (Int.toNat x55))) (fun x56 => z_let (z_w (a4 + 2)) (fun x57 => if 0 ≤ x57 ∧ x57 < (L : Int) then z_let (Int32.toInt (xs (Int.toNat x57))) (fun x58 => if z_ob a2 12 then z_bI (fX12_set fu s53 a2 x56 x58) (fun x60 s59 => fL_law_J1338 fu L xs s59 a1 a2 a3 a4 (fun w v4 => r w v4) k) else none) else none)) else none))) else none)) else none)
theorem gL_law_J330 {l : Launch} {K : z_K} (hst : l.stackTraces = false) (fu F : Nat) (s : z_M) (a1 : Int) (a2 : Int) (a3 : Int) (a4 : Int) (r : z_M → Int → z_O) (k : z_M → z_O) (hr : ∀ (s : z_M) (a4 : Int), G l K mL_law 13 295 (4 * F) (24 * F) 23 [vA K.2.2.2.2.2.1, vR a1, vR a2, vR a3, vI a4, vU, vU, vU] [] s (r s a4)) (hk : ∀ (s : z_M), G l K mL_law 13 295 0 0 1344 [vA K.2.2.2.2.2.1, vU, vU, vU, vU, vU, vU, vU] [] s (k s)) : G l K mL_law 13 295 (4 * F + 2) (24 * F + 12) 330 [vA K.2.2.2.2.2.1, vR a1, vR a2, vR a3, vI a4, vU, vU, vU] [] s (fL_law_J330 fu K.2.2.2.2.2.2.1 K.2.2.2.2.2.2.2 s a1 a2 a3 a4 r k) := by
  unfold fL_law_J330
  refine G_aload_n (x := a1) (pc := 330) dL_law_330 rfl ?_
  refine G_sload_n (pc := 331) dL_law_331 rfl ?_
  refine G_iload (x := a4) (pc := 332) dL_law_332 rfl ?_
  refine G_iconst (pc := 334) dL_law_334 ?_
  refine G_iadd (pc := 335) dL_law_335 (fun x49 => ?_)
  refine G_sald (pc := 336) dL_law_336 (fun x50 => ?_)
  refine G_sload_n (pc := 337) dL_law_337 rfl ?_
  refine G_iload (x := a4) (pc := 338) dL_law_338 rfl ?_
  refine G_iconst (pc := 340) dL_law_340 ?_
  refine G_iadd (pc := 341) dL_law_341 (fun x51 => ?_)
  refine G_sald (pc := 342) dL_law_342 (fun x52 => ?_)
  refine G_aload_n (x := a3) (pc := 343) dL_law_343 rfl ?_
  refine G_callSI (as := [vR a1, vI x50, vI x52, vR a3]) (st := []) (bc2 := (4 * F)) (bs2 := (24 * F)) (pc := 344) dL_law_344 z_mL_set z_sL_set z_wL_123 (gL_set hst fu s a1 x50 x52 a3) rfl rfl ⟨by decide, by decide, by omega, by omega, Nat.le_of_ble_eq_true rfl⟩ rfl (fun x54 s53 => ?_)
  refine G_istore (lv' := [vA K.2.2.2.2.2.1, vR a1, vR a2, vR a3, vI a4, vI x54, vU, vU]) (pc := 347) dL_law_347 rfl ?_
  refine G_aload_n (x := a2) (pc := 349) dL_law_349 rfl ?_
  refine G_sload_n (pc := 350) dL_law_350 rfl ?_
  refine G_iload (x := a4) (pc := 351) dL_law_351 rfl ?_
  refine G_iconst (pc := 353) dL_law_353 ?_
  refine G_iadd (pc := 354) dL_law_354 (fun x55 => ?_)
  refine G_sald (pc := 355) dL_law_355 (fun x56 => ?_)
  refine G_sload_n (pc := 356) dL_law_356 rfl ?_
  refine G_iload (x := a4) (pc := 357) dL_law_357 rfl ?_
  refine G_iconst (pc := 359) dL_law_359 ?_
  refine G_iadd (pc := 360) dL_law_360 (fun x57 => ?_)
  refine G_sald (pc := 361) dL_law_361 (fun x58 => ?_)
  refine G_callVI (as := [vI x56, vI x58]) (st := []) (c := 12) (bc2 := (4 * F)) (bs2 := (24 * F)) (pc := 362) dL_law_362 z_mX12_set z_vX12_set z_wL_126 (gX12_set hst fu s53 a2 x56 x58) rfl rfl (by decide) rfl rfl ⟨by decide, by decide, by omega, by omega, Nat.le_of_ble_eq_true rfl⟩ rfl (fun x60 s59 => ?_)
  refine G_istore (lv' := [vA K.2.2.2.2.2.1, vR a1, vR a2, vR a3, vI a4, vI x54, vI x60, vU]) (pc := 365) dL_law_365 rfl ?_
  refine G_goto (tgt := 1338) (pc := 367) dL_law_367 ?_
  refine G_less (bc2 := (4 * F)) (bs2 := (24 * F)) (by omega) (by omega) ?_
  refine G_fg (lv2 := [vA K.2.2.2.2.2.1, vR a1, vR a2, vR a3, vI a4, vU, vU, vU]) ⟨Or.inr rfl, Or.inr rfl, Or.inr rfl, Or.inr rfl, Or.inr rfl, Or.inl rfl, Or.inl rfl, Or.inl rfl, trivial⟩ ?_
  exact gL_law_J1338 hst fu F s59 a1 a2 a3 a4 _ _ (fun w v4 => hr w v4) hk
def fL_law_J370 (fu L : Nat) (xs : Nat → Int32) (s : z_M) (a1 : Int) (a2 : Int) (a3 : Int) (a4 : Int) (r : z_M → Int → z_O) (k : z_M → z_O) : z_O := z_let (z_w (a4 + 1)) (fun x61 => if 0 ≤ x61 ∧ x61 < (L : Int) then z_let (Int32.toInt (xs (Int.toNat x61))) (fun x62 => z_let (z_w (a4 + 2)) (fun x63 => if 0 ≤ x63 ∧ x63 < (L : Int) then z_let (Int32.toInt (xs (Int.toNat x63))) (fun x64 => z_bI (fL_cut fu s a1 x62 x64 a3) (fun x66 s65 => z_let (z_w (a4 + 1)) (fun x67 => if 0 ≤ x67 ∧ x67 < (L : Int) then z_let (Int32.toInt (xs (Int.toNat x67))) (fun x68 => z_let (z_w (a4 + 2)) (fun x69 => if 0 ≤ x69 ∧ x69 < (L : Int) then z_let (Int32.toInt (xs (Int.toNat x69))) (fun x70 => if z_ob a2 12 then z_bI (fX12_cut fu s65 a2 x68 x70) (fun x72 s71 => fL_law_J1338 fu L xs s71 a1 a2 a3 a4 (fun w v4 => r w v4) k) else none) else none)) else none))) else none)) else none)
theorem gL_law_J370 {l : Launch} {K : z_K} (hst : l.stackTraces = false) (fu F : Nat) (s : z_M) (a1 : Int) (a2 : Int) (a3 : Int) (a4 : Int) (r : z_M → Int → z_O) (k : z_M → z_O) (hr : ∀ (s : z_M) (a4 : Int), G l K mL_law 13 295 (4 * F) (24 * F) 23 [vA K.2.2.2.2.2.1, vR a1, vR a2, vR a3, vI a4, vU, vU, vU] [] s (r s a4)) (hk : ∀ (s : z_M), G l K mL_law 13 295 0 0 1344 [vA K.2.2.2.2.2.1, vU, vU, vU, vU, vU, vU, vU] [] s (k s)) : G l K mL_law 13 295 (4 * F + 3) (24 * F + 18) 370 [vA K.2.2.2.2.2.1, vR a1, vR a2, vR a3, vI a4, vU, vU, vU] [] s (fL_law_J370 fu K.2.2.2.2.2.2.1 K.2.2.2.2.2.2.2 s a1 a2 a3 a4 r k) := by
  unfold fL_law_J370
  refine G_aload_n (x := a1) (pc := 370) dL_law_370 rfl ?_
  refine G_sload_n (pc := 371) dL_law_371 rfl ?_
  refine G_iload (x := a4) (pc := 372) dL_law_372 rfl ?_
  refine G_iconst (pc := 374) dL_law_374 ?_
  refine G_iadd (pc := 375) dL_law_375 (fun x61 => ?_)
  refine G_sald (pc := 376) dL_law_376 (fun x62 => ?_)
  refine G_sload_n (pc := 377) dL_law_377 rfl ?_
  refine G_iload (x := a4) (pc := 378) dL_law_378 rfl ?_
  refine G_iconst (pc := 380) dL_law_380 ?_
  refine G_iadd (pc := 381) dL_law_381 (fun x63 => ?_)
  refine G_sald (pc := 382) dL_law_382 (fun x64 => ?_)
  refine G_aload_n (x := a3) (pc := 383) dL_law_383 rfl ?_
  refine G_callSI (as := [vR a1, vI x62, vI x64, vR a3]) (st := []) (bc2 := (4 * F)) (bs2 := (24 * F)) (pc := 384) dL_law_384 z_mL_cut z_sL_cut z_wL_127 (gL_cut hst fu s a1 x62 x64 a3) rfl rfl ⟨by decide, by decide, by omega, by omega, Nat.le_of_ble_eq_true rfl⟩ rfl (fun x66 s65 => ?_)
  refine G_istore (lv' := [vA K.2.2.2.2.2.1, vR a1, vR a2, vR a3, vI a4, vI x66, vU, vU]) (pc := 387) dL_law_387 rfl ?_
  refine G_aload_n (x := a2) (pc := 389) dL_law_389 rfl ?_
  refine G_sload_n (pc := 390) dL_law_390 rfl ?_
  refine G_iload (x := a4) (pc := 391) dL_law_391 rfl ?_
  refine G_iconst (pc := 393) dL_law_393 ?_
  refine G_iadd (pc := 394) dL_law_394 (fun x67 => ?_)
  refine G_sald (pc := 395) dL_law_395 (fun x68 => ?_)
  refine G_sload_n (pc := 396) dL_law_396 rfl ?_
  refine G_iload (x := a4) (pc := 397) dL_law_397 rfl ?_
  refine G_iconst (pc := 399) dL_law_399 ?_
  refine G_iadd (pc := 400) dL_law_400 (fun x69 => ?_)
  refine G_sald (pc := 401) dL_law_401 (fun x70 => ?_)
  refine G_callVI (as := [vI x68, vI x70]) (st := []) (c := 12) (bc2 := (4 * F)) (bs2 := (24 * F)) (pc := 402) dL_law_402 z_mX12_cut z_vX12_cut z_wL_129 (gX12_cut hst fu s65 a2 x68 x70) rfl rfl (by decide) rfl rfl ⟨by decide, by decide, by omega, by omega, Nat.le_of_ble_eq_true rfl⟩ rfl (fun x72 s71 => ?_)
  refine G_istore (lv' := [vA K.2.2.2.2.2.1, vR a1, vR a2, vR a3, vI a4, vI x66, vI x72, vU]) (pc := 405) dL_law_405 rfl ?_
  refine G_goto (tgt := 1338) (pc := 407) dL_law_407 ?_
  refine G_less (bc2 := (4 * F)) (bs2 := (24 * F)) (by omega) (by omega) ?_
  refine G_fg (lv2 := [vA K.2.2.2.2.2.1, vR a1, vR a2, vR a3, vI a4, vU, vU, vU]) ⟨Or.inr rfl, Or.inr rfl, Or.inr rfl, Or.inr rfl, Or.inr rfl, Or.inl rfl, Or.inl rfl, Or.inl rfl, trivial⟩ ?_
  exact gL_law_J1338 hst fu F s71 a1 a2 a3 a4 _ _ (fun w v4 => hr w v4) hk
def fL_law_J410 (fu L : Nat) (xs : Nat → Int32) (s : z_M) (a1 : Int) (a2 : Int) (a3 : Int) (a4 : Int) (r : z_M → Int → z_O) (k : z_M → z_O) : z_O := if z_ob a1 11 then z_bI (fX11_undo fu s a1) (fun x74 s73 => if z_ob a2 12 then z_bI (fX12_undo fu s73 a2) (fun x76 s75 => fL_law_J1338 fu L xs s75 a1 a2 a3 a4 (fun w v4 => r w v4) k) else none) else none
theorem gL_law_J410 {l : Launch} {K : z_K} (hst : l.stackTraces = false) (fu F : Nat) (s : z_M) (a1 : Int) (a2 : Int) (a3 : Int) (a4 : Int) (r : z_M → Int → z_O) (k : z_M → z_O) (hr : ∀ (s : z_M) (a4 : Int), G l K mL_law 13 295 (4 * F) (24 * F) 23 [vA K.2.2.2.2.2.1, vR a1, vR a2, vR a3, vI a4, vU, vU, vU] [] s (r s a4)) (hk : ∀ (s : z_M), G l K mL_law 13 295 0 0 1344 [vA K.2.2.2.2.2.1, vU, vU, vU, vU, vU, vU, vU] [] s (k s)) : G l K mL_law 13 295 (4 * F) (24 * F) 410 [vA K.2.2.2.2.2.1, vR a1, vR a2, vR a3, vI a4, vU, vU, vU] [] s (fL_law_J410 fu K.2.2.2.2.2.2.1 K.2.2.2.2.2.2.2 s a1 a2 a3 a4 r k) := by
  unfold fL_law_J410
  refine G_aload_n (x := a1) (pc := 410) dL_law_410 rfl ?_
  refine G_callVI (as := []) (st := []) (c := 11) (bc2 := (4 * F)) (bs2 := (24 * F)) (pc := 411) dL_law_411 z_mX11_undo z_vX11_undo z_wL_130 (gX11_undo hst fu s a1) rfl rfl (by decide) rfl rfl ⟨by decide, by decide, by omega, by omega, Nat.le_of_ble_eq_true rfl⟩ rfl (fun x74 s73 => ?_)
  refine G_popI (pc := 414) dL_law_414 ?_
  refine G_aload_n (x := a2) (pc := 415) dL_law_415 rfl ?_
  refine G_callVI (as := []) (st := []) (c := 12) (bc2 := (4 * F)) (bs2 := (24 * F)) (pc := 416) dL_law_416 z_mX12_undo z_vX12_undo z_wL_133 (gX12_undo hst fu s73 a2) rfl rfl (by decide) rfl rfl ⟨by decide, by decide, by omega, by omega, Nat.le_of_ble_eq_true rfl⟩ rfl (fun x76 s75 => ?_)
  refine G_popI (pc := 419) dL_law_419 ?_
  refine G_goto (tgt := 1338) (pc := 420) dL_law_420 ?_
  refine G_less (bc2 := (4 * F)) (bs2 := (24 * F)) (by omega) (by omega) ?_
  exact gL_law_J1338 hst fu F s75 a1 a2 a3 a4 _ _ (fun w v4 => hr w v4) hk
def fL_law_J423 (fu L : Nat) (xs : Nat → Int32) (s : z_M) (a1 : Int) (a2 : Int) (a3 : Int) (a4 : Int) (r : z_M → Int → z_O) (k : z_M → z_O) : z_O := z_let (z_w (a4 + 1)) (fun x77 => if 0 ≤ x77 ∧ x77 < (L : Int) then z_let (Int32.toInt (xs (Int.toNat x77))) (fun x78 => z_bI (fL_told fu s a1 x78 a3) (fun x80 s79 => z_let (z_w (a4 + 1)) (fun x81 => if 0 ≤ x81 ∧ x81 < (L : Int) then z_let (Int32.toInt (xs (Int.toNat x81))) (fun x82 => if z_ob a2 12 then z_bL (fX12_told fu s79 a2 x82) (fun x84 s83 => fL_law_J1338 fu L xs s83 a1 a2 a3 a4 (fun w v4 => r w v4) k) else none) else none))) else none)
theorem gL_law_J423 {l : Launch} {K : z_K} (hst : l.stackTraces = false) (fu F : Nat) (s : z_M) (a1 : Int) (a2 : Int) (a3 : Int) (a4 : Int) (r : z_M → Int → z_O) (k : z_M → z_O) (hr : ∀ (s : z_M) (a4 : Int), G l K mL_law 13 295 (4 * F) (24 * F) 23 [vA K.2.2.2.2.2.1, vR a1, vR a2, vR a3, vI a4, vU, vU, vU] [] s (r s a4)) (hk : ∀ (s : z_M), G l K mL_law 13 295 0 0 1344 [vA K.2.2.2.2.2.1, vU, vU, vU, vU, vU, vU, vU] [] s (k s)) : G l K mL_law 13 295 (4 * F + 1) (24 * F + 6) 423 [vA K.2.2.2.2.2.1, vR a1, vR a2, vR a3, vI a4, vU, vU, vU] [] s (fL_law_J423 fu K.2.2.2.2.2.2.1 K.2.2.2.2.2.2.2 s a1 a2 a3 a4 r k) := by
  unfold fL_law_J423
  refine G_aload_n (x := a1) (pc := 423) dL_law_423 rfl ?_
  refine G_sload_n (pc := 424) dL_law_424 rfl ?_
  refine G_iload (x := a4) (pc := 425) dL_law_425 rfl ?_
  refine G_iconst (pc := 427) dL_law_427 ?_
  refine G_iadd (pc := 428) dL_law_428 (fun x77 => ?_)
  refine G_sald (pc := 429) dL_law_429 (fun x78 => ?_)
  refine G_aload_n (x := a3) (pc := 430) dL_law_430 rfl ?_
  refine G_callSI (as := [vR a1, vI x78, vR a3]) (st := []) (bc2 := (4 * F)) (bs2 := (24 * F)) (pc := 431) dL_law_431 z_mL_told z_sL_told z_wL_134 (gL_told hst fu s a1 x78 a3) rfl rfl ⟨by decide, by decide, by omega, by omega, Nat.le_of_ble_eq_true rfl⟩ rfl (fun x80 s79 => ?_)
  refine G_istore (lv' := [vA K.2.2.2.2.2.1, vR a1, vR a2, vR a3, vI a4, vI x80, vU, vU]) (pc := 434) dL_law_434 rfl ?_
  refine G_aload_n (x := a2) (pc := 436) dL_law_436 rfl ?_
  refine G_sload_n (pc := 437) dL_law_437 rfl ?_
  refine G_iload (x := a4) (pc := 438) dL_law_438 rfl ?_
  refine G_iconst (pc := 440) dL_law_440 ?_
  refine G_iadd (pc := 441) dL_law_441 (fun x81 => ?_)
  refine G_sald (pc := 442) dL_law_442 (fun x82 => ?_)
  refine G_callVL (as := [vI x82]) (st := []) (c := 12) (bc2 := (4 * F)) (bs2 := (24 * F)) (pc := 443) dL_law_443 z_mX12_told z_vX12_told z_wL_136 (gX12_told hst fu s79 a2 x82) rfl rfl (by decide) rfl rfl ⟨by decide, by decide, by omega, by omega, Nat.le_of_ble_eq_true rfl⟩ rfl (fun x84 s83 => ?_)
  refine G_lstore (lv' := [vA K.2.2.2.2.2.1, vR a1, vR a2, vR a3, vI a4, vI x80, vL x84, vU]) (pc := 446) dL_law_446 rfl ?_
  refine G_goto (tgt := 1338) (pc := 448) dL_law_448 ?_
  refine G_less (bc2 := (4 * F)) (bs2 := (24 * F)) (by omega) (by omega) ?_
  refine G_fg (lv2 := [vA K.2.2.2.2.2.1, vR a1, vR a2, vR a3, vI a4, vU, vU, vU]) ⟨Or.inr rfl, Or.inr rfl, Or.inr rfl, Or.inr rfl, Or.inr rfl, Or.inl rfl, Or.inl rfl, Or.inl rfl, trivial⟩ ?_
  exact gL_law_J1338 hst fu F s83 a1 a2 a3 a4 _ _ (fun w v4 => hr w v4) hk
def fL_law_J451 (fu L : Nat) (xs : Nat → Int32) (s : z_M) (a1 : Int) (a2 : Int) (a3 : Int) (a4 : Int) (r : z_M → Int → z_O) (k : z_M → z_O) : z_O := z_let (z_w (a4 + 1)) (fun x85 => if 0 ≤ x85 ∧ x85 < (L : Int) then z_let (Int32.toInt (xs (Int.toNat x85))) (fun x86 => z_let (z_w (a4 + 2)) (fun x87 => if 0 ≤ x87 ∧ x87 < (L : Int) then z_let (Int32.toInt (xs (Int.toNat x87))) (fun x88 => z_bI (fL_unit fu s a1 x86 x88 a3) (fun x90 s89 => z_let (z_w (a4 + 1)) (fun x91 => if 0 ≤ x91 ∧ x91 < (L : Int) then z_let (Int32.toInt (xs (Int.toNat x91))) (fun x92 => z_let (z_w (a4 + 2)) (fun x93 => if 0 ≤ x93 ∧ x93 < (L : Int) then z_let (Int32.toInt (xs (Int.toNat x93))) (fun x94 => if z_ob a2 12 then z_bI (fX12_unit fu s89 a2 x92 x94) (fun x96 s95 => fL_law_J1338 fu L xs s95 a1 a2 a3 a4 (fun w v4 => r w v4) k) else none) else none)) else none))) else none)) else none)
theorem gL_law_J451 {l : Launch} {K : z_K} (hst : l.stackTraces = false) (fu F : Nat) (s : z_M) (a1 : Int) (a2 : Int) (a3 : Int) (a4 : Int) (r : z_M → Int → z_O) (k : z_M → z_O) (hr : ∀ (s : z_M) (a4 : Int), G l K mL_law 13 295 (4 * F) (24 * F) 23 [vA K.2.2.2.2.2.1, vR a1, vR a2, vR a3, vI a4, vU, vU, vU] [] s (r s a4)) (hk : ∀ (s : z_M), G l K mL_law 13 295 0 0 1344 [vA K.2.2.2.2.2.1, vU, vU, vU, vU, vU, vU, vU] [] s (k s)) : G l K mL_law 13 295 (4 * F + 2) (24 * F + 12) 451 [vA K.2.2.2.2.2.1, vR a1, vR a2, vR a3, vI a4, vU, vU, vU] [] s (fL_law_J451 fu K.2.2.2.2.2.2.1 K.2.2.2.2.2.2.2 s a1 a2 a3 a4 r k) := by
  unfold fL_law_J451
  refine G_aload_n (x := a1) (pc := 451) dL_law_451 rfl ?_
  refine G_sload_n (pc := 452) dL_law_452 rfl ?_
  refine G_iload (x := a4) (pc := 453) dL_law_453 rfl ?_
  refine G_iconst (pc := 455) dL_law_455 ?_
  refine G_iadd (pc := 456) dL_law_456 (fun x85 => ?_)
  refine G_sald (pc := 457) dL_law_457 (fun x86 => ?_)
  refine G_sload_n (pc := 458) dL_law_458 rfl ?_
  refine G_iload (x := a4) (pc := 459) dL_law_459 rfl ?_
  refine G_iconst (pc := 461) dL_law_461 ?_
  refine G_iadd (pc := 462) dL_law_462 (fun x87 => ?_)
  refine G_sald (pc := 463) dL_law_463 (fun x88 => ?_)
  refine G_aload_n (x := a3) (pc := 464) dL_law_464 rfl ?_
  refine G_callSI (as := [vR a1, vI x86, vI x88, vR a3]) (st := []) (bc2 := (4 * F)) (bs2 := (24 * F)) (pc := 465) dL_law_465 z_mL_unit z_sL_unit z_wL_137 (gL_unit hst fu s a1 x86 x88 a3) rfl rfl ⟨by decide, by decide, by omega, by omega, Nat.le_of_ble_eq_true rfl⟩ rfl (fun x90 s89 => ?_)
  refine G_istore (lv' := [vA K.2.2.2.2.2.1, vR a1, vR a2, vR a3, vI a4, vI x90, vU, vU]) (pc := 468) dL_law_468 rfl ?_
  refine G_aload_n (x := a2) (pc := 470) dL_law_470 rfl ?_
  refine G_sload_n (pc := 471) dL_law_471 rfl ?_
  refine G_iload (x := a4) (pc := 472) dL_law_472 rfl ?_
  refine G_iconst (pc := 474) dL_law_474 ?_
  refine G_iadd (pc := 475) dL_law_475 (fun x91 => ?_)
  refine G_sald (pc := 476) dL_law_476 (fun x92 => ?_)
  refine G_sload_n (pc := 477) dL_law_477 rfl ?_
  refine G_iload (x := a4) (pc := 478) dL_law_478 rfl ?_
  refine G_iconst (pc := 480) dL_law_480 ?_
  refine G_iadd (pc := 481) dL_law_481 (fun x93 => ?_)
  refine G_sald (pc := 482) dL_law_482 (fun x94 => ?_)
  refine G_callVI (as := [vI x92, vI x94]) (st := []) (c := 12) (bc2 := (4 * F)) (bs2 := (24 * F)) (pc := 483) dL_law_483 z_mX12_unit z_vX12_unit z_wL_139 (gX12_unit hst fu s89 a2 x92 x94) rfl rfl (by decide) rfl rfl ⟨by decide, by decide, by omega, by omega, Nat.le_of_ble_eq_true rfl⟩ rfl (fun x96 s95 => ?_)
  refine G_istore (lv' := [vA K.2.2.2.2.2.1, vR a1, vR a2, vR a3, vI a4, vI x90, vI x96, vU]) (pc := 486) dL_law_486 rfl ?_
  refine G_goto (tgt := 1338) (pc := 488) dL_law_488 ?_
  refine G_less (bc2 := (4 * F)) (bs2 := (24 * F)) (by omega) (by omega) ?_
  refine G_fg (lv2 := [vA K.2.2.2.2.2.1, vR a1, vR a2, vR a3, vI a4, vU, vU, vU]) ⟨Or.inr rfl, Or.inr rfl, Or.inr rfl, Or.inr rfl, Or.inr rfl, Or.inl rfl, Or.inl rfl, Or.inl rfl, trivial⟩ ?_
  exact gL_law_J1338 hst fu F s95 a1 a2 a3 a4 _ _ (fun w v4 => hr w v4) hk
def fL_law_J491 (fu L : Nat) (xs : Nat → Int32) (s : z_M) (a1 : Int) (a2 : Int) (a3 : Int) (a4 : Int) (r : z_M → Int → z_O) (k : z_M → z_O) : z_O := z_let (z_w (a4 + 1)) (fun x97 => if 0 ≤ x97 ∧ x97 < (L : Int) then z_let (Int32.toInt (xs (Int.toNat x97))) (fun x98 => z_let (z_w (a4 + 2)) (fun x99 => if 0 ≤ x99 ∧ x99 < (L : Int) then z_let (Int32.toInt (xs (Int.toNat x99))) (fun x100 => z_bI (fL_sign fu s a1 x98 x100 a3) (fun x102 s101 => z_let (z_w (a4 + 1)) (fun x103 => if 0 ≤ x103 ∧ x103 < (L : Int) then z_let (Int32.toInt (xs (Int.toNat x103))) (fun x104 => z_let (z_w (a4 + 2)) (fun x105 => if 0 ≤ x105 ∧ x105 < (L : Int) then z_let (Int32.toInt (xs (Int.toNat x105))) (fun x106 => if z_ob a2 12 then z_bI (fX12_sign fu s101 a2 x104 x106) (fun x108 s107 => fL_law_J1338 fu L xs s107 a1 a2 a3 a4 (fun w v4 => r w v4) k) else none) else none)) else none))) else none)) else none)
theorem gL_law_J491 {l : Launch} {K : z_K} (hst : l.stackTraces = false) (fu F : Nat) (s : z_M) (a1 : Int) (a2 : Int) (a3 : Int) (a4 : Int) (r : z_M → Int → z_O) (k : z_M → z_O) (hr : ∀ (s : z_M) (a4 : Int), G l K mL_law 13 295 (4 * F) (24 * F) 23 [vA K.2.2.2.2.2.1, vR a1, vR a2, vR a3, vI a4, vU, vU, vU] [] s (r s a4)) (hk : ∀ (s : z_M), G l K mL_law 13 295 0 0 1344 [vA K.2.2.2.2.2.1, vU, vU, vU, vU, vU, vU, vU] [] s (k s)) : G l K mL_law 13 295 (4 * F + 2) (24 * F + 12) 491 [vA K.2.2.2.2.2.1, vR a1, vR a2, vR a3, vI a4, vU, vU, vU] [] s (fL_law_J491 fu K.2.2.2.2.2.2.1 K.2.2.2.2.2.2.2 s a1 a2 a3 a4 r k) := by
  unfold fL_law_J491
  refine G_aload_n (x := a1) (pc := 491) dL_law_491 rfl ?_
  refine G_sload_n (pc := 492) dL_law_492 rfl ?_
  refine G_iload (x := a4) (pc := 493) dL_law_493 rfl ?_
  refine G_iconst (pc := 495) dL_law_495 ?_
  refine G_iadd (pc := 496) dL_law_496 (fun x97 => ?_)
  refine G_sald (pc := 497) dL_law_497 (fun x98 => ?_)
  refine G_sload_n (pc := 498) dL_law_498 rfl ?_
  refine G_iload (x := a4) (pc := 499) dL_law_499 rfl ?_
  refine G_iconst (pc := 501) dL_law_501 ?_
  refine G_iadd (pc := 502) dL_law_502 (fun x99 => ?_)
  refine G_sald (pc := 503) dL_law_503 (fun x100 => ?_)
  refine G_aload_n (x := a3) (pc := 504) dL_law_504 rfl ?_
  refine G_callSI (as := [vR a1, vI x98, vI x100, vR a3]) (st := []) (bc2 := (4 * F)) (bs2 := (24 * F)) (pc := 505) dL_law_505 z_mL_sign z_sL_sign z_wL_140 (gL_sign hst fu s a1 x98 x100 a3) rfl rfl ⟨by decide, by decide, by omega, by omega, Nat.le_of_ble_eq_true rfl⟩ rfl (fun x102 s101 => ?_)
  refine G_istore (lv' := [vA K.2.2.2.2.2.1, vR a1, vR a2, vR a3, vI a4, vI x102, vU, vU]) (pc := 508) dL_law_508 rfl ?_
  refine G_aload_n (x := a2) (pc := 510) dL_law_510 rfl ?_
  refine G_sload_n (pc := 511) dL_law_511 rfl ?_
  refine G_iload (x := a4) (pc := 512) dL_law_512 rfl ?_
  refine G_iconst (pc := 514) dL_law_514 ?_
  refine G_iadd (pc := 515) dL_law_515 (fun x103 => ?_)
  refine G_sald (pc := 516) dL_law_516 (fun x104 => ?_)
  refine G_sload_n (pc := 517) dL_law_517 rfl ?_
  refine G_iload (x := a4) (pc := 518) dL_law_518 rfl ?_
  refine G_iconst (pc := 520) dL_law_520 ?_
  refine G_iadd (pc := 521) dL_law_521 (fun x105 => ?_)
  refine G_sald (pc := 522) dL_law_522 (fun x106 => ?_)
  refine G_callVI (as := [vI x104, vI x106]) (st := []) (c := 12) (bc2 := (4 * F)) (bs2 := (24 * F)) (pc := 523) dL_law_523 z_mX12_sign z_vX12_sign z_wL_142 (gX12_sign hst fu s101 a2 x104 x106) rfl rfl (by decide) rfl rfl ⟨by decide, by decide, by omega, by omega, Nat.le_of_ble_eq_true rfl⟩ rfl (fun x108 s107 => ?_)
  refine G_istore (lv' := [vA K.2.2.2.2.2.1, vR a1, vR a2, vR a3, vI a4, vI x102, vI x108, vU]) (pc := 526) dL_law_526 rfl ?_
  refine G_goto (tgt := 1338) (pc := 528) dL_law_528 ?_
  refine G_less (bc2 := (4 * F)) (bs2 := (24 * F)) (by omega) (by omega) ?_
  refine G_fg (lv2 := [vA K.2.2.2.2.2.1, vR a1, vR a2, vR a3, vI a4, vU, vU, vU]) ⟨Or.inr rfl, Or.inr rfl, Or.inr rfl, Or.inr rfl, Or.inr rfl, Or.inl rfl, Or.inl rfl, Or.inl rfl, trivial⟩ ?_
  exact gL_law_J1338 hst fu F s107 a1 a2 a3 a4 _ _ (fun w v4 => hr w v4) hk
def fL_law_J531 (fu L : Nat) (xs : Nat → Int32) (s : z_M) (a1 : Int) (a2 : Int) (a3 : Int) (a4 : Int) (r : z_M → Int → z_O) (k : z_M → z_O) : z_O := z_let (z_w (a4 + 1)) (fun x109 => if 0 ≤ x109 ∧ x109 < (L : Int) then z_let (Int32.toInt (xs (Int.toNat x109))) (fun x110 => z_let (z_w (a4 + 2)) (fun x111 => if 0 ≤ x111 ∧ x111 < (L : Int) then z_let (Int32.toInt (xs (Int.toNat x111))) (fun x112 => z_bI (fL_line fu s a1 x110 x112 a3) (fun x114 s113 => z_let (z_w (a4 + 1)) (fun x115 => if 0 ≤ x115 ∧ x115 < (L : Int) then z_let (Int32.toInt (xs (Int.toNat x115))) (fun x116 => z_let (z_w (a4 + 2)) (fun x117 => if 0 ≤ x117 ∧ x117 < (L : Int) then z_let (Int32.toInt (xs (Int.toNat x117))) (fun x118 => if z_ob a2 12 then z_bI (fX12_line fu s113 a2 x116 x118) (fun x120 s119 => fL_law_J1338 fu L xs s119 a1 a2 a3 a4 (fun w v4 => r w v4) k) else none) else none)) else none))) else none)) else none)
theorem gL_law_J531 {l : Launch} {K : z_K} (hst : l.stackTraces = false) (fu F : Nat) (s : z_M) (a1 : Int) (a2 : Int) (a3 : Int) (a4 : Int) (r : z_M → Int → z_O) (k : z_M → z_O) (hr : ∀ (s : z_M) (a4 : Int), G l K mL_law 13 295 (4 * F) (24 * F) 23 [vA K.2.2.2.2.2.1, vR a1, vR a2, vR a3, vI a4, vU, vU, vU] [] s (r s a4)) (hk : ∀ (s : z_M), G l K mL_law 13 295 0 0 1344 [vA K.2.2.2.2.2.1, vU, vU, vU, vU, vU, vU, vU] [] s (k s)) : G l K mL_law 13 295 (4 * F + 2) (24 * F + 12) 531 [vA K.2.2.2.2.2.1, vR a1, vR a2, vR a3, vI a4, vU, vU, vU] [] s (fL_law_J531 fu K.2.2.2.2.2.2.1 K.2.2.2.2.2.2.2 s a1 a2 a3 a4 r k) := by
  unfold fL_law_J531
  refine G_aload_n (x := a1) (pc := 531) dL_law_531 rfl ?_
  refine G_sload_n (pc := 532) dL_law_532 rfl ?_
  refine G_iload (x := a4) (pc := 533) dL_law_533 rfl ?_
  refine G_iconst (pc := 535) dL_law_535 ?_
  refine G_iadd (pc := 536) dL_law_536 (fun x109 => ?_)
  refine G_sald (pc := 537) dL_law_537 (fun x110 => ?_)
  refine G_sload_n (pc := 538) dL_law_538 rfl ?_
  refine G_iload (x := a4) (pc := 539) dL_law_539 rfl ?_
  refine G_iconst (pc := 541) dL_law_541 ?_
  refine G_iadd (pc := 542) dL_law_542 (fun x111 => ?_)
  refine G_sald (pc := 543) dL_law_543 (fun x112 => ?_)
  refine G_aload_n (x := a3) (pc := 544) dL_law_544 rfl ?_
  refine G_callSI (as := [vR a1, vI x110, vI x112, vR a3]) (st := []) (bc2 := (4 * F)) (bs2 := (24 * F)) (pc := 545) dL_law_545 z_mL_line z_sL_line z_wL_143 (gL_line hst fu s a1 x110 x112 a3) rfl rfl ⟨by decide, by decide, by omega, by omega, Nat.le_of_ble_eq_true rfl⟩ rfl (fun x114 s113 => ?_)
  refine G_istore (lv' := [vA K.2.2.2.2.2.1, vR a1, vR a2, vR a3, vI a4, vI x114, vU, vU]) (pc := 548) dL_law_548 rfl ?_
  refine G_aload_n (x := a2) (pc := 550) dL_law_550 rfl ?_
  refine G_sload_n (pc := 551) dL_law_551 rfl ?_
  refine G_iload (x := a4) (pc := 552) dL_law_552 rfl ?_
  refine G_iconst (pc := 554) dL_law_554 ?_
  refine G_iadd (pc := 555) dL_law_555 (fun x115 => ?_)
  refine G_sald (pc := 556) dL_law_556 (fun x116 => ?_)
  refine G_sload_n (pc := 557) dL_law_557 rfl ?_
  refine G_iload (x := a4) (pc := 558) dL_law_558 rfl ?_
  refine G_iconst (pc := 560) dL_law_560 ?_
  refine G_iadd (pc := 561) dL_law_561 (fun x117 => ?_)
  refine G_sald (pc := 562) dL_law_562 (fun x118 => ?_)
  refine G_callVI (as := [vI x116, vI x118]) (st := []) (c := 12) (bc2 := (4 * F)) (bs2 := (24 * F)) (pc := 563) dL_law_563 z_mX12_line z_vX12_line z_wL_145 (gX12_line hst fu s113 a2 x116 x118) rfl rfl (by decide) rfl rfl ⟨by decide, by decide, by omega, by omega, Nat.le_of_ble_eq_true rfl⟩ rfl (fun x120 s119 => ?_)
  refine G_istore (lv' := [vA K.2.2.2.2.2.1, vR a1, vR a2, vR a3, vI a4, vI x114, vI x120, vU]) (pc := 566) dL_law_566 rfl ?_
  refine G_goto (tgt := 1338) (pc := 568) dL_law_568 ?_
  refine G_less (bc2 := (4 * F)) (bs2 := (24 * F)) (by omega) (by omega) ?_
  refine G_fg (lv2 := [vA K.2.2.2.2.2.1, vR a1, vR a2, vR a3, vI a4, vU, vU, vU]) ⟨Or.inr rfl, Or.inr rfl, Or.inr rfl, Or.inr rfl, Or.inr rfl, Or.inl rfl, Or.inl rfl, Or.inl rfl, trivial⟩ ?_
  exact gL_law_J1338 hst fu F s119 a1 a2 a3 a4 _ _ (fun w v4 => hr w v4) hk
def fL_law_J571 (fu L : Nat) (xs : Nat → Int32) (s : z_M) (a1 : Int) (a2 : Int) (a3 : Int) (a4 : Int) (r : z_M → Int → z_O) (k : z_M → z_O) : z_O := z_let (z_w (a4 + 1)) (fun x121 => if 0 ≤ x121 ∧ x121 < (L : Int) then z_let (Int32.toInt (xs (Int.toNat x121))) (fun x122 => z_let (z_w (a4 + 2)) (fun x123 => if 0 ≤ x123 ∧ x123 < (L : Int) then z_let (Int32.toInt (xs (Int.toNat x123))) (fun x124 => z_bI (fL_block fu s a1 x122 x124 a3) (fun x126 s125 => z_let (z_w (a4 + 1)) (fun x127 => if 0 ≤ x127 ∧ x127 < (L : Int) then z_let (Int32.toInt (xs (Int.toNat x127))) (fun x128 => z_let (z_w (a4 + 2)) (fun x129 => if 0 ≤ x129 ∧ x129 < (L : Int) then z_let (Int32.toInt (xs (Int.toNat x129))) (fun x130 => if z_ob a2 12 then z_bI (fX12_block fu s125 a2 x128 x130) (fun x132 s131 => fL_law_J1338 fu L xs s131 a1 a2 a3 a4 (fun w v4 => r w v4) k) else none) else none)) else none))) else none)) else none)
theorem gL_law_J571 {l : Launch} {K : z_K} (hst : l.stackTraces = false) (fu F : Nat) (s : z_M) (a1 : Int) (a2 : Int) (a3 : Int) (a4 : Int) (r : z_M → Int → z_O) (k : z_M → z_O) (hr : ∀ (s : z_M) (a4 : Int), G l K mL_law 13 295 (4 * F) (24 * F) 23 [vA K.2.2.2.2.2.1, vR a1, vR a2, vR a3, vI a4, vU, vU, vU] [] s (r s a4)) (hk : ∀ (s : z_M), G l K mL_law 13 295 0 0 1344 [vA K.2.2.2.2.2.1, vU, vU, vU, vU, vU, vU, vU] [] s (k s)) : G l K mL_law 13 295 (4 * F + 2) (24 * F + 12) 571 [vA K.2.2.2.2.2.1, vR a1, vR a2, vR a3, vI a4, vU, vU, vU] [] s (fL_law_J571 fu K.2.2.2.2.2.2.1 K.2.2.2.2.2.2.2 s a1 a2 a3 a4 r k) := by
  unfold fL_law_J571
  refine G_aload_n (x := a1) (pc := 571) dL_law_571 rfl ?_
  refine G_sload_n (pc := 572) dL_law_572 rfl ?_
  refine G_iload (x := a4) (pc := 573) dL_law_573 rfl ?_
  refine G_iconst (pc := 575) dL_law_575 ?_
  refine G_iadd (pc := 576) dL_law_576 (fun x121 => ?_)
  refine G_sald (pc := 577) dL_law_577 (fun x122 => ?_)
  refine G_sload_n (pc := 578) dL_law_578 rfl ?_
  refine G_iload (x := a4) (pc := 579) dL_law_579 rfl ?_
  refine G_iconst (pc := 581) dL_law_581 ?_
  refine G_iadd (pc := 582) dL_law_582 (fun x123 => ?_)
  refine G_sald (pc := 583) dL_law_583 (fun x124 => ?_)
  refine G_aload_n (x := a3) (pc := 584) dL_law_584 rfl ?_
  refine G_callSI (as := [vR a1, vI x122, vI x124, vR a3]) (st := []) (bc2 := (4 * F)) (bs2 := (24 * F)) (pc := 585) dL_law_585 z_mL_block z_sL_block z_wL_146 (gL_block hst fu s a1 x122 x124 a3) rfl rfl ⟨by decide, by decide, by omega, by omega, Nat.le_of_ble_eq_true rfl⟩ rfl (fun x126 s125 => ?_)
  refine G_istore (lv' := [vA K.2.2.2.2.2.1, vR a1, vR a2, vR a3, vI a4, vI x126, vU, vU]) (pc := 588) dL_law_588 rfl ?_
  refine G_aload_n (x := a2) (pc := 590) dL_law_590 rfl ?_
  refine G_sload_n (pc := 591) dL_law_591 rfl ?_
  refine G_iload (x := a4) (pc := 592) dL_law_592 rfl ?_
  refine G_iconst (pc := 594) dL_law_594 ?_
  refine G_iadd (pc := 595) dL_law_595 (fun x127 => ?_)
  refine G_sald (pc := 596) dL_law_596 (fun x128 => ?_)
  refine G_sload_n (pc := 597) dL_law_597 rfl ?_
  refine G_iload (x := a4) (pc := 598) dL_law_598 rfl ?_
  refine G_iconst (pc := 600) dL_law_600 ?_
  refine G_iadd (pc := 601) dL_law_601 (fun x129 => ?_)
  refine G_sald (pc := 602) dL_law_602 (fun x130 => ?_)
  refine G_callVI (as := [vI x128, vI x130]) (st := []) (c := 12) (bc2 := (4 * F)) (bs2 := (24 * F)) (pc := 603) dL_law_603 z_mX12_block z_vX12_block z_wL_148 (gX12_block hst fu s125 a2 x128 x130) rfl rfl (by decide) rfl rfl ⟨by decide, by decide, by omega, by omega, Nat.le_of_ble_eq_true rfl⟩ rfl (fun x132 s131 => ?_)
  refine G_istore (lv' := [vA K.2.2.2.2.2.1, vR a1, vR a2, vR a3, vI a4, vI x126, vI x132, vU]) (pc := 606) dL_law_606 rfl ?_
  refine G_goto (tgt := 1338) (pc := 608) dL_law_608 ?_
  refine G_less (bc2 := (4 * F)) (bs2 := (24 * F)) (by omega) (by omega) ?_
  refine G_fg (lv2 := [vA K.2.2.2.2.2.1, vR a1, vR a2, vR a3, vI a4, vU, vU, vU]) ⟨Or.inr rfl, Or.inr rfl, Or.inr rfl, Or.inr rfl, Or.inr rfl, Or.inl rfl, Or.inl rfl, Or.inl rfl, trivial⟩ ?_
  exact gL_law_J1338 hst fu F s131 a1 a2 a3 a4 _ _ (fun w v4 => hr w v4) hk
def fL_law_J611 (fu L : Nat) (xs : Nat → Int32) (s : z_M) (a1 : Int) (a2 : Int) (a3 : Int) (a4 : Int) (r : z_M → Int → z_O) (k : z_M → z_O) : z_O := z_let (z_w (a4 + 1)) (fun x133 => if 0 ≤ x133 ∧ x133 < (L : Int) then z_let (Int32.toInt (xs (Int.toNat x133))) (fun x134 => z_let (z_w (a4 + 2)) (fun x135 => if 0 ≤ x135 ∧ x135 < (L : Int) then z_let (Int32.toInt (xs (Int.toNat x135))) (fun x136 => z_let (z_w (a4 + 3)) (fun x137 => if 0 ≤ x137 ∧ x137 < (L : Int) then z_let (Int32.toInt (xs (Int.toNat x137))) (fun x138 => z_let (z_w (a4 + 4)) (fun x139 => if 0 ≤ x139 ∧ x139 < (L : Int) then z_let (Int32.toInt (xs (Int.toNat x139))) (fun x140 => z_bI (fL_reading fu s a1 x134 x136 x138 x140 a3) (fun x142 s141 => z_let (z_w (a4 + 1)) (fun x143 => if 0 ≤ x143 ∧ x143 < (L : Int) then z_let (Int32.toInt (xs (Int.toNat x143))) (fun x144 => z_let (z_w (a4 + 2)) (fun x145 => if 0 ≤ x145 ∧ x145 < (L : Int) then z_let (Int32.toInt (xs (Int.toNat x145))) (fun x146 => z_let (z_w (a4 + 3)) (fun x147 => if 0 ≤ x147 ∧ x147 < (L : Int) then z_let (Int32.toInt (xs (Int.toNat x147))) (fun x148 => z_let (z_w (a4 + 4)) (fun x149 => if 0 ≤ x149 ∧ x149 < (L : Int) then z_let (Int32.toInt (xs (Int.toNat x149))) (fun x150 => if z_ob a2 12 then z_bI (fX12_reading fu s141 a2 x144 x146 x148 x150) (fun x152 s151 => fL_law_J1338 fu L xs s151 a1 a2 a3 a4 (fun w v4 => r w v4) k) else none) else none)) else none)) else none)) else none))) else none)) else none)) else none)) else none)
theorem gL_law_J611 {l : Launch} {K : z_K} (hst : l.stackTraces = false) (fu F : Nat) (s : z_M) (a1 : Int) (a2 : Int) (a3 : Int) (a4 : Int) (r : z_M → Int → z_O) (k : z_M → z_O) (hr : ∀ (s : z_M) (a4 : Int), G l K mL_law 13 295 (4 * F) (24 * F) 23 [vA K.2.2.2.2.2.1, vR a1, vR a2, vR a3, vI a4, vU, vU, vU] [] s (r s a4)) (hk : ∀ (s : z_M), G l K mL_law 13 295 0 0 1344 [vA K.2.2.2.2.2.1, vU, vU, vU, vU, vU, vU, vU] [] s (k s)) : G l K mL_law 13 295 (4 * F + 4) (24 * F + 24) 611 [vA K.2.2.2.2.2.1, vR a1, vR a2, vR a3, vI a4, vU, vU, vU] [] s (fL_law_J611 fu K.2.2.2.2.2.2.1 K.2.2.2.2.2.2.2 s a1 a2 a3 a4 r k) := by
  unfold fL_law_J611
  refine G_aload_n (x := a1) (pc := 611) dL_law_611 rfl ?_
  refine G_sload_n (pc := 612) dL_law_612 rfl ?_
  refine G_iload (x := a4) (pc := 613) dL_law_613 rfl ?_
  refine G_iconst (pc := 615) dL_law_615 ?_
  refine G_iadd (pc := 616) dL_law_616 (fun x133 => ?_)
  refine G_sald (pc := 617) dL_law_617 (fun x134 => ?_)
  refine G_sload_n (pc := 618) dL_law_618 rfl ?_
  refine G_iload (x := a4) (pc := 619) dL_law_619 rfl ?_
  refine G_iconst (pc := 621) dL_law_621 ?_
  refine G_iadd (pc := 622) dL_law_622 (fun x135 => ?_)
  refine G_sald (pc := 623) dL_law_623 (fun x136 => ?_)
  refine G_sload_n (pc := 624) dL_law_624 rfl ?_
  refine G_iload (x := a4) (pc := 625) dL_law_625 rfl ?_
  refine G_iconst (pc := 627) dL_law_627 ?_
  refine G_iadd (pc := 628) dL_law_628 (fun x137 => ?_)
  refine G_sald (pc := 629) dL_law_629 (fun x138 => ?_)
  refine G_sload_n (pc := 630) dL_law_630 rfl ?_
  refine G_iload (x := a4) (pc := 631) dL_law_631 rfl ?_
  refine G_iconst (pc := 633) dL_law_633 ?_
  refine G_iadd (pc := 634) dL_law_634 (fun x139 => ?_)
  refine G_sald (pc := 635) dL_law_635 (fun x140 => ?_)
  refine G_aload_n (x := a3) (pc := 636) dL_law_636 rfl ?_
  refine G_callSI (as := [vR a1, vI x134, vI x136, vI x138, vI x140, vR a3]) (st := []) (bc2 := (4 * F)) (bs2 := (24 * F)) (pc := 637) dL_law_637 z_mL_reading z_sL_reading z_wL_149 (gL_reading hst fu s a1 x134 x136 x138 x140 a3) rfl rfl ⟨by decide, by decide, by omega, by omega, Nat.le_of_ble_eq_true rfl⟩ rfl (fun x142 s141 => ?_)
  refine G_istore (lv' := [vA K.2.2.2.2.2.1, vR a1, vR a2, vR a3, vI a4, vI x142, vU, vU]) (pc := 640) dL_law_640 rfl ?_
  refine G_aload_n (x := a2) (pc := 642) dL_law_642 rfl ?_
  refine G_sload_n (pc := 643) dL_law_643 rfl ?_
  refine G_iload (x := a4) (pc := 644) dL_law_644 rfl ?_
  refine G_iconst (pc := 646) dL_law_646 ?_
  refine G_iadd (pc := 647) dL_law_647 (fun x143 => ?_)
  refine G_sald (pc := 648) dL_law_648 (fun x144 => ?_)
  refine G_sload_n (pc := 649) dL_law_649 rfl ?_
  refine G_iload (x := a4) (pc := 650) dL_law_650 rfl ?_
  refine G_iconst (pc := 652) dL_law_652 ?_
  refine G_iadd (pc := 653) dL_law_653 (fun x145 => ?_)
  refine G_sald (pc := 654) dL_law_654 (fun x146 => ?_)
  refine G_sload_n (pc := 655) dL_law_655 rfl ?_
  refine G_iload (x := a4) (pc := 656) dL_law_656 rfl ?_
  refine G_iconst (pc := 658) dL_law_658 ?_
  refine G_iadd (pc := 659) dL_law_659 (fun x147 => ?_)
  refine G_sald (pc := 660) dL_law_660 (fun x148 => ?_)
  refine G_sload_n (pc := 661) dL_law_661 rfl ?_
  refine G_iload (x := a4) (pc := 662) dL_law_662 rfl ?_
  refine G_iconst (pc := 664) dL_law_664 ?_
  refine G_iadd (pc := 665) dL_law_665 (fun x149 => ?_)
  refine G_sald (pc := 666) dL_law_666 (fun x150 => ?_)
  refine G_callVI (as := [vI x144, vI x146, vI x148, vI x150]) (st := []) (c := 12) (bc2 := (4 * F)) (bs2 := (24 * F)) (pc := 667) dL_law_667 z_mX12_reading z_vX12_reading z_wL_152 (gX12_reading hst fu s141 a2 x144 x146 x148 x150) rfl rfl (by decide) rfl rfl ⟨by decide, by decide, by omega, by omega, Nat.le_of_ble_eq_true rfl⟩ rfl (fun x152 s151 => ?_)
  refine G_istore (lv' := [vA K.2.2.2.2.2.1, vR a1, vR a2, vR a3, vI a4, vI x142, vI x152, vU]) (pc := 670) dL_law_670 rfl ?_
  refine G_goto (tgt := 1338) (pc := 672) dL_law_672 ?_
  refine G_less (bc2 := (4 * F)) (bs2 := (24 * F)) (by omega) (by omega) ?_
  refine G_fg (lv2 := [vA K.2.2.2.2.2.1, vR a1, vR a2, vR a3, vI a4, vU, vU, vU]) ⟨Or.inr rfl, Or.inr rfl, Or.inr rfl, Or.inr rfl, Or.inr rfl, Or.inl rfl, Or.inl rfl, Or.inl rfl, trivial⟩ ?_
  exact gL_law_J1338 hst fu F s151 a1 a2 a3 a4 _ _ (fun w v4 => hr w v4) hk
def fL_law_J675 (fu L : Nat) (xs : Nat → Int32) (s : z_M) (a1 : Int) (a2 : Int) (a3 : Int) (a4 : Int) (r : z_M → Int → z_O) (k : z_M → z_O) : z_O := z_let (z_w (a4 + 1)) (fun x153 => if 0 ≤ x153 ∧ x153 < (L : Int) then z_let (Int32.toInt (xs (Int.toNat x153))) (fun x154 => z_let (z_w (a4 + 2)) (fun x155 => if 0 ≤ x155 ∧ x155 < (L : Int) then z_let (Int32.toInt (xs (Int.toNat x155))) (fun x156 => z_bI (fL_run fu s a1 x154 x156 a3) (fun x158 s157 => z_let (z_w (a4 + 1)) (fun x159 => if 0 ≤ x159 ∧ x159 < (L : Int) then z_let (Int32.toInt (xs (Int.toNat x159))) (fun x160 => z_let (z_w (a4 + 2)) (fun x161 => if 0 ≤ x161 ∧ x161 < (L : Int) then z_let (Int32.toInt (xs (Int.toNat x161))) (fun x162 => if z_ob a2 12 then z_bI (fX12_run fu s157 a2 x160 x162) (fun x164 s163 => fL_law_J1338 fu L xs s163 a1 a2 a3 a4 (fun w v4 => r w v4) k) else none) else none)) else none))) else none)) else none)
theorem gL_law_J675 {l : Launch} {K : z_K} (hst : l.stackTraces = false) (fu F : Nat) (s : z_M) (a1 : Int) (a2 : Int) (a3 : Int) (a4 : Int) (r : z_M → Int → z_O) (k : z_M → z_O) (hr : ∀ (s : z_M) (a4 : Int), G l K mL_law 13 295 (4 * F) (24 * F) 23 [vA K.2.2.2.2.2.1, vR a1, vR a2, vR a3, vI a4, vU, vU, vU] [] s (r s a4)) (hk : ∀ (s : z_M), G l K mL_law 13 295 0 0 1344 [vA K.2.2.2.2.2.1, vU, vU, vU, vU, vU, vU, vU] [] s (k s)) : G l K mL_law 13 295 (4 * F + 1) (24 * F + 6) 675 [vA K.2.2.2.2.2.1, vR a1, vR a2, vR a3, vI a4, vU, vU, vU] [] s (fL_law_J675 fu K.2.2.2.2.2.2.1 K.2.2.2.2.2.2.2 s a1 a2 a3 a4 r k) := by
  unfold fL_law_J675
  refine G_aload_n (x := a1) (pc := 675) dL_law_675 rfl ?_
  refine G_sload_n (pc := 676) dL_law_676 rfl ?_
  refine G_iload (x := a4) (pc := 677) dL_law_677 rfl ?_
  refine G_iconst (pc := 679) dL_law_679 ?_
  refine G_iadd (pc := 680) dL_law_680 (fun x153 => ?_)
  refine G_sald (pc := 681) dL_law_681 (fun x154 => ?_)
  refine G_sload_n (pc := 682) dL_law_682 rfl ?_
  refine G_iload (x := a4) (pc := 683) dL_law_683 rfl ?_
  refine G_iconst (pc := 685) dL_law_685 ?_
  refine G_iadd (pc := 686) dL_law_686 (fun x155 => ?_)
  refine G_sald (pc := 687) dL_law_687 (fun x156 => ?_)
  refine G_aload_n (x := a3) (pc := 688) dL_law_688 rfl ?_
  refine G_callSI (as := [vR a1, vI x154, vI x156, vR a3]) (st := []) (bc2 := (4 * F)) (bs2 := (24 * F)) (pc := 689) dL_law_689 z_mL_run z_sL_run z_wL_153 (gL_run hst fu s a1 x154 x156 a3) rfl rfl ⟨by decide, by decide, by omega, by omega, Nat.le_of_ble_eq_true rfl⟩ rfl (fun x158 s157 => ?_)
  refine G_istore (lv' := [vA K.2.2.2.2.2.1, vR a1, vR a2, vR a3, vI a4, vI x158, vU, vU]) (pc := 692) dL_law_692 rfl ?_
  refine G_aload_n (x := a2) (pc := 694) dL_law_694 rfl ?_
  refine G_sload_n (pc := 695) dL_law_695 rfl ?_
  refine G_iload (x := a4) (pc := 696) dL_law_696 rfl ?_
  refine G_iconst (pc := 698) dL_law_698 ?_
  refine G_iadd (pc := 699) dL_law_699 (fun x159 => ?_)
  refine G_sald (pc := 700) dL_law_700 (fun x160 => ?_)
  refine G_sload_n (pc := 701) dL_law_701 rfl ?_
  refine G_iload (x := a4) (pc := 702) dL_law_702 rfl ?_
  refine G_iconst (pc := 704) dL_law_704 ?_
  refine G_iadd (pc := 705) dL_law_705 (fun x161 => ?_)
  refine G_sald (pc := 706) dL_law_706 (fun x162 => ?_)
  refine G_callVI (as := [vI x160, vI x162]) (st := []) (c := 12) (bc2 := (4 * F)) (bs2 := (24 * F)) (pc := 707) dL_law_707 z_mX12_run z_vX12_run z_wL_155 (gX12_run hst fu s157 a2 x160 x162) rfl rfl (by decide) rfl rfl ⟨by decide, by decide, by omega, by omega, Nat.le_of_ble_eq_true rfl⟩ rfl (fun x164 s163 => ?_)
  refine G_istore (lv' := [vA K.2.2.2.2.2.1, vR a1, vR a2, vR a3, vI a4, vI x158, vI x164, vU]) (pc := 710) dL_law_710 rfl ?_
  refine G_goto (tgt := 1338) (pc := 712) dL_law_712 ?_
  refine G_less (bc2 := (4 * F)) (bs2 := (24 * F)) (by omega) (by omega) ?_
  refine G_fg (lv2 := [vA K.2.2.2.2.2.1, vR a1, vR a2, vR a3, vI a4, vU, vU, vU]) ⟨Or.inr rfl, Or.inr rfl, Or.inr rfl, Or.inr rfl, Or.inr rfl, Or.inl rfl, Or.inl rfl, Or.inl rfl, trivial⟩ ?_
  exact gL_law_J1338 hst fu F s163 a1 a2 a3 a4 _ _ (fun w v4 => hr w v4) hk
def fL_law_J715 (fu L : Nat) (xs : Nat → Int32) (s : z_M) (a1 : Int) (a2 : Int) (a3 : Int) (a4 : Int) (r : z_M → Int → z_O) (k : z_M → z_O) : z_O := z_let (z_w (a4 + 1)) (fun x165 => if 0 ≤ x165 ∧ x165 < (L : Int) then z_let (Int32.toInt (xs (Int.toNat x165))) (fun x166 => z_let (z_w (a4 + 2)) (fun x167 => if 0 ≤ x167 ∧ x167 < (L : Int) then z_let (Int32.toInt (xs (Int.toNat x167))) (fun x168 => z_bI (fL_at fu s a1 x166 x168 a3) (fun x170 s169 => z_let (z_w (a4 + 1)) (fun x171 => if 0 ≤ x171 ∧ x171 < (L : Int) then z_let (Int32.toInt (xs (Int.toNat x171))) (fun x172 => z_let (z_w (a4 + 2)) (fun x173 => if 0 ≤ x173 ∧ x173 < (L : Int) then z_let (Int32.toInt (xs (Int.toNat x173))) (fun x174 => if z_ob a2 12 then z_bI (fX12_at fu s169 a2 x172 x174) (fun x176 s175 => fL_law_J1338 fu L xs s175 a1 a2 a3 a4 (fun w v4 => r w v4) k) else none) else none)) else none))) else none)) else none)
theorem gL_law_J715 {l : Launch} {K : z_K} (hst : l.stackTraces = false) (fu F : Nat) (s : z_M) (a1 : Int) (a2 : Int) (a3 : Int) (a4 : Int) (r : z_M → Int → z_O) (k : z_M → z_O) (hr : ∀ (s : z_M) (a4 : Int), G l K mL_law 13 295 (4 * F) (24 * F) 23 [vA K.2.2.2.2.2.1, vR a1, vR a2, vR a3, vI a4, vU, vU, vU] [] s (r s a4)) (hk : ∀ (s : z_M), G l K mL_law 13 295 0 0 1344 [vA K.2.2.2.2.2.1, vU, vU, vU, vU, vU, vU, vU] [] s (k s)) : G l K mL_law 13 295 (4 * F + 1) (24 * F + 6) 715 [vA K.2.2.2.2.2.1, vR a1, vR a2, vR a3, vI a4, vU, vU, vU] [] s (fL_law_J715 fu K.2.2.2.2.2.2.1 K.2.2.2.2.2.2.2 s a1 a2 a3 a4 r k) := by
  unfold fL_law_J715
  refine G_aload_n (x := a1) (pc := 715) dL_law_715 rfl ?_
  refine G_sload_n (pc := 716) dL_law_716 rfl ?_
  refine G_iload (x := a4) (pc := 717) dL_law_717 rfl ?_
  refine G_iconst (pc := 719) dL_law_719 ?_
  refine G_iadd (pc := 720) dL_law_720 (fun x165 => ?_)
  refine G_sald (pc := 721) dL_law_721 (fun x166 => ?_)
  refine G_sload_n (pc := 722) dL_law_722 rfl ?_
  refine G_iload (x := a4) (pc := 723) dL_law_723 rfl ?_
  refine G_iconst (pc := 725) dL_law_725 ?_
  refine G_iadd (pc := 726) dL_law_726 (fun x167 => ?_)
  refine G_sald (pc := 727) dL_law_727 (fun x168 => ?_)
  refine G_aload_n (x := a3) (pc := 728) dL_law_728 rfl ?_
  refine G_callSI (as := [vR a1, vI x166, vI x168, vR a3]) (st := []) (bc2 := (4 * F)) (bs2 := (24 * F)) (pc := 729) dL_law_729 z_mL_at z_sL_at z_wL_156 (gL_at hst fu s a1 x166 x168 a3) rfl rfl ⟨by decide, by decide, by omega, by omega, Nat.le_of_ble_eq_true rfl⟩ rfl (fun x170 s169 => ?_)
  refine G_istore (lv' := [vA K.2.2.2.2.2.1, vR a1, vR a2, vR a3, vI a4, vI x170, vU, vU]) (pc := 732) dL_law_732 rfl ?_
  refine G_aload_n (x := a2) (pc := 734) dL_law_734 rfl ?_
  refine G_sload_n (pc := 735) dL_law_735 rfl ?_
  refine G_iload (x := a4) (pc := 736) dL_law_736 rfl ?_
  refine G_iconst (pc := 738) dL_law_738 ?_
  refine G_iadd (pc := 739) dL_law_739 (fun x171 => ?_)
  refine G_sald (pc := 740) dL_law_740 (fun x172 => ?_)
  refine G_sload_n (pc := 741) dL_law_741 rfl ?_
  refine G_iload (x := a4) (pc := 742) dL_law_742 rfl ?_
  refine G_iconst (pc := 744) dL_law_744 ?_
  refine G_iadd (pc := 745) dL_law_745 (fun x173 => ?_)
  refine G_sald (pc := 746) dL_law_746 (fun x174 => ?_)
  refine G_callVI (as := [vI x172, vI x174]) (st := []) (c := 12) (bc2 := (4 * F)) (bs2 := (24 * F)) (pc := 747) dL_law_747 z_mX12_at z_vX12_at z_wL_158 (gX12_at hst fu s169 a2 x172 x174) rfl rfl (by decide) rfl rfl ⟨by decide, by decide, by omega, by omega, Nat.le_of_ble_eq_true rfl⟩ rfl (fun x176 s175 => ?_)
  refine G_istore (lv' := [vA K.2.2.2.2.2.1, vR a1, vR a2, vR a3, vI a4, vI x170, vI x176, vU]) (pc := 750) dL_law_750 rfl ?_
  refine G_goto (tgt := 1338) (pc := 752) dL_law_752 ?_
  refine G_less (bc2 := (4 * F)) (bs2 := (24 * F)) (by omega) (by omega) ?_
  refine G_fg (lv2 := [vA K.2.2.2.2.2.1, vR a1, vR a2, vR a3, vI a4, vU, vU, vU]) ⟨Or.inr rfl, Or.inr rfl, Or.inr rfl, Or.inr rfl, Or.inr rfl, Or.inl rfl, Or.inl rfl, Or.inl rfl, trivial⟩ ?_
  exact gL_law_J1338 hst fu F s175 a1 a2 a3 a4 _ _ (fun w v4 => hr w v4) hk
def fL_law_J755 (fu L : Nat) (xs : Nat → Int32) (s : z_M) (a1 : Int) (a2 : Int) (a3 : Int) (a4 : Int) (r : z_M → Int → z_O) (k : z_M → z_O) : z_O := z_let (z_w (a4 + 1)) (fun x177 => if 0 ≤ x177 ∧ x177 < (L : Int) then z_let (Int32.toInt (xs (Int.toNat x177))) (fun x178 => z_bI (fL_ends fu s a1 x178 a3) (fun x180 s179 => z_let (z_w (a4 + 1)) (fun x181 => if 0 ≤ x181 ∧ x181 < (L : Int) then z_let (Int32.toInt (xs (Int.toNat x181))) (fun x182 => if z_ob a2 12 then z_bI (fX12_ends fu s179 a2 x182) (fun x184 s183 => fL_law_J1338 fu L xs s183 a1 a2 a3 a4 (fun w v4 => r w v4) k) else none) else none))) else none)
theorem gL_law_J755 {l : Launch} {K : z_K} (hst : l.stackTraces = false) (fu F : Nat) (s : z_M) (a1 : Int) (a2 : Int) (a3 : Int) (a4 : Int) (r : z_M → Int → z_O) (k : z_M → z_O) (hr : ∀ (s : z_M) (a4 : Int), G l K mL_law 13 295 (4 * F) (24 * F) 23 [vA K.2.2.2.2.2.1, vR a1, vR a2, vR a3, vI a4, vU, vU, vU] [] s (r s a4)) (hk : ∀ (s : z_M), G l K mL_law 13 295 0 0 1344 [vA K.2.2.2.2.2.1, vU, vU, vU, vU, vU, vU, vU] [] s (k s)) : G l K mL_law 13 295 (4 * F + 1) (24 * F + 6) 755 [vA K.2.2.2.2.2.1, vR a1, vR a2, vR a3, vI a4, vU, vU, vU] [] s (fL_law_J755 fu K.2.2.2.2.2.2.1 K.2.2.2.2.2.2.2 s a1 a2 a3 a4 r k) := by
  unfold fL_law_J755
  refine G_aload_n (x := a1) (pc := 755) dL_law_755 rfl ?_
  refine G_sload_n (pc := 756) dL_law_756 rfl ?_
  refine G_iload (x := a4) (pc := 757) dL_law_757 rfl ?_
  refine G_iconst (pc := 759) dL_law_759 ?_
  refine G_iadd (pc := 760) dL_law_760 (fun x177 => ?_)
  refine G_sald (pc := 761) dL_law_761 (fun x178 => ?_)
  refine G_aload_n (x := a3) (pc := 762) dL_law_762 rfl ?_
  refine G_callSI (as := [vR a1, vI x178, vR a3]) (st := []) (bc2 := (4 * F)) (bs2 := (24 * F)) (pc := 763) dL_law_763 z_mL_ends z_sL_ends z_wL_159 (gL_ends hst fu s a1 x178 a3) rfl rfl ⟨by decide, by decide, by omega, by omega, Nat.le_of_ble_eq_true rfl⟩ rfl (fun x180 s179 => ?_)
  refine G_istore (lv' := [vA K.2.2.2.2.2.1, vR a1, vR a2, vR a3, vI a4, vI x180, vU, vU]) (pc := 766) dL_law_766 rfl ?_
  refine G_aload_n (x := a2) (pc := 768) dL_law_768 rfl ?_
  refine G_sload_n (pc := 769) dL_law_769 rfl ?_
  refine G_iload (x := a4) (pc := 770) dL_law_770 rfl ?_
  refine G_iconst (pc := 772) dL_law_772 ?_
  refine G_iadd (pc := 773) dL_law_773 (fun x181 => ?_)
  refine G_sald (pc := 774) dL_law_774 (fun x182 => ?_)
  refine G_callVI (as := [vI x182]) (st := []) (c := 12) (bc2 := (4 * F)) (bs2 := (24 * F)) (pc := 775) dL_law_775 z_mX12_ends z_vX12_ends z_wL_161 (gX12_ends hst fu s179 a2 x182) rfl rfl (by decide) rfl rfl ⟨by decide, by decide, by omega, by omega, Nat.le_of_ble_eq_true rfl⟩ rfl (fun x184 s183 => ?_)
  refine G_istore (lv' := [vA K.2.2.2.2.2.1, vR a1, vR a2, vR a3, vI a4, vI x180, vI x184, vU]) (pc := 778) dL_law_778 rfl ?_
  refine G_goto (tgt := 1338) (pc := 780) dL_law_780 ?_
  refine G_less (bc2 := (4 * F)) (bs2 := (24 * F)) (by omega) (by omega) ?_
  refine G_fg (lv2 := [vA K.2.2.2.2.2.1, vR a1, vR a2, vR a3, vI a4, vU, vU, vU]) ⟨Or.inr rfl, Or.inr rfl, Or.inr rfl, Or.inr rfl, Or.inr rfl, Or.inl rfl, Or.inl rfl, Or.inl rfl, trivial⟩ ?_
  exact gL_law_J1338 hst fu F s183 a1 a2 a3 a4 _ _ (fun w v4 => hr w v4) hk
def fL_law_J783 (fu L : Nat) (xs : Nat → Int32) (s : z_M) (a1 : Int) (a2 : Int) (a3 : Int) (a4 : Int) (r : z_M → Int → z_O) (k : z_M → z_O) : z_O := z_let (z_w (a4 + 1)) (fun x185 => if 0 ≤ x185 ∧ x185 < (L : Int) then z_let (Int32.toInt (xs (Int.toNat x185))) (fun x186 => z_let (z_w (a4 + 2)) (fun x187 => if 0 ≤ x187 ∧ x187 < (L : Int) then z_let (Int32.toInt (xs (Int.toNat x187))) (fun x188 => z_bI (fL_longOf fu s a1 x186 x188 a3) (fun x190 s189 => z_let (z_w (a4 + 1)) (fun x191 => if 0 ≤ x191 ∧ x191 < (L : Int) then z_let (Int32.toInt (xs (Int.toNat x191))) (fun x192 => z_let (z_w (a4 + 2)) (fun x193 => if 0 ≤ x193 ∧ x193 < (L : Int) then z_let (Int32.toInt (xs (Int.toNat x193))) (fun x194 => if z_ob a2 12 then z_bI (fX12_longOf fu s189 a2 x192 x194) (fun x196 s195 => fL_law_J1338 fu L xs s195 a1 a2 a3 a4 (fun w v4 => r w v4) k) else none) else none)) else none))) else none)) else none)
theorem gL_law_J783 {l : Launch} {K : z_K} (hst : l.stackTraces = false) (fu F : Nat) (s : z_M) (a1 : Int) (a2 : Int) (a3 : Int) (a4 : Int) (r : z_M → Int → z_O) (k : z_M → z_O) (hr : ∀ (s : z_M) (a4 : Int), G l K mL_law 13 295 (4 * F) (24 * F) 23 [vA K.2.2.2.2.2.1, vR a1, vR a2, vR a3, vI a4, vU, vU, vU] [] s (r s a4)) (hk : ∀ (s : z_M), G l K mL_law 13 295 0 0 1344 [vA K.2.2.2.2.2.1, vU, vU, vU, vU, vU, vU, vU] [] s (k s)) : G l K mL_law 13 295 (4 * F + 3) (24 * F + 18) 783 [vA K.2.2.2.2.2.1, vR a1, vR a2, vR a3, vI a4, vU, vU, vU] [] s (fL_law_J783 fu K.2.2.2.2.2.2.1 K.2.2.2.2.2.2.2 s a1 a2 a3 a4 r k) := by
  unfold fL_law_J783
  refine G_aload_n (x := a1) (pc := 783) dL_law_783 rfl ?_
  refine G_sload_n (pc := 784) dL_law_784 rfl ?_
  refine G_iload (x := a4) (pc := 785) dL_law_785 rfl ?_
  refine G_iconst (pc := 787) dL_law_787 ?_
  refine G_iadd (pc := 788) dL_law_788 (fun x185 => ?_)
  refine G_sald (pc := 789) dL_law_789 (fun x186 => ?_)
  refine G_sload_n (pc := 790) dL_law_790 rfl ?_
  refine G_iload (x := a4) (pc := 791) dL_law_791 rfl ?_
  refine G_iconst (pc := 793) dL_law_793 ?_
  refine G_iadd (pc := 794) dL_law_794 (fun x187 => ?_)
  refine G_sald (pc := 795) dL_law_795 (fun x188 => ?_)
  refine G_aload_n (x := a3) (pc := 796) dL_law_796 rfl ?_
  refine G_callSI (as := [vR a1, vI x186, vI x188, vR a3]) (st := []) (bc2 := (4 * F)) (bs2 := (24 * F)) (pc := 797) dL_law_797 z_mL_longOf z_sL_longOf z_wL_162 (gL_longOf hst fu s a1 x186 x188 a3) rfl rfl ⟨by decide, by decide, by omega, by omega, Nat.le_of_ble_eq_true rfl⟩ rfl (fun x190 s189 => ?_)
  refine G_istore (lv' := [vA K.2.2.2.2.2.1, vR a1, vR a2, vR a3, vI a4, vI x190, vU, vU]) (pc := 800) dL_law_800 rfl ?_
  refine G_aload_n (x := a2) (pc := 802) dL_law_802 rfl ?_
  refine G_sload_n (pc := 803) dL_law_803 rfl ?_
  refine G_iload (x := a4) (pc := 804) dL_law_804 rfl ?_
  refine G_iconst (pc := 806) dL_law_806 ?_
  refine G_iadd (pc := 807) dL_law_807 (fun x191 => ?_)
  refine G_sald (pc := 808) dL_law_808 (fun x192 => ?_)
  refine G_sload_n (pc := 809) dL_law_809 rfl ?_
  refine G_iload (x := a4) (pc := 810) dL_law_810 rfl ?_
  refine G_iconst (pc := 812) dL_law_812 ?_
  refine G_iadd (pc := 813) dL_law_813 (fun x193 => ?_)
  refine G_sald (pc := 814) dL_law_814 (fun x194 => ?_)
  refine G_callVI (as := [vI x192, vI x194]) (st := []) (c := 12) (bc2 := (4 * F)) (bs2 := (24 * F)) (pc := 815) dL_law_815 z_mX12_longOf z_vX12_longOf z_wL_164 (gX12_longOf hst fu s189 a2 x192 x194) rfl rfl (by decide) rfl rfl ⟨by decide, by decide, by omega, by omega, Nat.le_of_ble_eq_true rfl⟩ rfl (fun x196 s195 => ?_)
  refine G_istore (lv' := [vA K.2.2.2.2.2.1, vR a1, vR a2, vR a3, vI a4, vI x190, vI x196, vU]) (pc := 818) dL_law_818 rfl ?_
  refine G_goto (tgt := 1338) (pc := 820) dL_law_820 ?_
  refine G_less (bc2 := (4 * F)) (bs2 := (24 * F)) (by omega) (by omega) ?_
  refine G_fg (lv2 := [vA K.2.2.2.2.2.1, vR a1, vR a2, vR a3, vI a4, vU, vU, vU]) ⟨Or.inr rfl, Or.inr rfl, Or.inr rfl, Or.inr rfl, Or.inr rfl, Or.inl rfl, Or.inl rfl, Or.inl rfl, trivial⟩ ?_
  exact gL_law_J1338 hst fu F s195 a1 a2 a3 a4 _ _ (fun w v4 => hr w v4) hk
def fL_law_J823 (fu L : Nat) (xs : Nat → Int32) (s : z_M) (a1 : Int) (a2 : Int) (a3 : Int) (a4 : Int) (r : z_M → Int → z_O) (k : z_M → z_O) : z_O := z_let (z_w (a4 + 1)) (fun x197 => if 0 ≤ x197 ∧ x197 < (L : Int) then z_let (Int32.toInt (xs (Int.toNat x197))) (fun x198 => z_let (z_w (a4 + 2)) (fun x199 => if 0 ≤ x199 ∧ x199 < (L : Int) then z_let (Int32.toInt (xs (Int.toNat x199))) (fun x200 => z_bI (fL_lines fu s a1 x198 x200 a3) (fun x202 s201 => z_let (z_w (a4 + 1)) (fun x203 => if 0 ≤ x203 ∧ x203 < (L : Int) then z_let (Int32.toInt (xs (Int.toNat x203))) (fun x204 => z_let (z_w (a4 + 2)) (fun x205 => if 0 ≤ x205 ∧ x205 < (L : Int) then z_let (Int32.toInt (xs (Int.toNat x205))) (fun x206 => if z_ob a2 12 then z_bI (fX12_lines fu s201 a2 x204 x206) (fun x208 s207 => fL_law_J1338 fu L xs s207 a1 a2 a3 a4 (fun w v4 => r w v4) k) else none) else none)) else none))) else none)) else none)
theorem gL_law_J823 {l : Launch} {K : z_K} (hst : l.stackTraces = false) (fu F : Nat) (s : z_M) (a1 : Int) (a2 : Int) (a3 : Int) (a4 : Int) (r : z_M → Int → z_O) (k : z_M → z_O) (hr : ∀ (s : z_M) (a4 : Int), G l K mL_law 13 295 (4 * F) (24 * F) 23 [vA K.2.2.2.2.2.1, vR a1, vR a2, vR a3, vI a4, vU, vU, vU] [] s (r s a4)) (hk : ∀ (s : z_M), G l K mL_law 13 295 0 0 1344 [vA K.2.2.2.2.2.1, vU, vU, vU, vU, vU, vU, vU] [] s (k s)) : G l K mL_law 13 295 (4 * F + 2) (24 * F + 12) 823 [vA K.2.2.2.2.2.1, vR a1, vR a2, vR a3, vI a4, vU, vU, vU] [] s (fL_law_J823 fu K.2.2.2.2.2.2.1 K.2.2.2.2.2.2.2 s a1 a2 a3 a4 r k) := by
  unfold fL_law_J823
  refine G_aload_n (x := a1) (pc := 823) dL_law_823 rfl ?_
  refine G_sload_n (pc := 824) dL_law_824 rfl ?_
  refine G_iload (x := a4) (pc := 825) dL_law_825 rfl ?_
  refine G_iconst (pc := 827) dL_law_827 ?_
  refine G_iadd (pc := 828) dL_law_828 (fun x197 => ?_)
  refine G_sald (pc := 829) dL_law_829 (fun x198 => ?_)
  refine G_sload_n (pc := 830) dL_law_830 rfl ?_
  refine G_iload (x := a4) (pc := 831) dL_law_831 rfl ?_
  refine G_iconst (pc := 833) dL_law_833 ?_
  refine G_iadd (pc := 834) dL_law_834 (fun x199 => ?_)
  refine G_sald (pc := 835) dL_law_835 (fun x200 => ?_)
  refine G_aload_n (x := a3) (pc := 836) dL_law_836 rfl ?_
  refine G_callSI (as := [vR a1, vI x198, vI x200, vR a3]) (st := []) (bc2 := (4 * F)) (bs2 := (24 * F)) (pc := 837) dL_law_837 z_mL_lines z_sL_lines z_wL_165 (gL_lines hst fu s a1 x198 x200 a3) rfl rfl ⟨by decide, by decide, by omega, by omega, Nat.le_of_ble_eq_true rfl⟩ rfl (fun x202 s201 => ?_)
  refine G_istore (lv' := [vA K.2.2.2.2.2.1, vR a1, vR a2, vR a3, vI a4, vI x202, vU, vU]) (pc := 840) dL_law_840 rfl ?_
  refine G_aload_n (x := a2) (pc := 842) dL_law_842 rfl ?_
  refine G_sload_n (pc := 843) dL_law_843 rfl ?_
  refine G_iload (x := a4) (pc := 844) dL_law_844 rfl ?_
  refine G_iconst (pc := 846) dL_law_846 ?_
  refine G_iadd (pc := 847) dL_law_847 (fun x203 => ?_)
  refine G_sald (pc := 848) dL_law_848 (fun x204 => ?_)
  refine G_sload_n (pc := 849) dL_law_849 rfl ?_
  refine G_iload (x := a4) (pc := 850) dL_law_850 rfl ?_
  refine G_iconst (pc := 852) dL_law_852 ?_
  refine G_iadd (pc := 853) dL_law_853 (fun x205 => ?_)
  refine G_sald (pc := 854) dL_law_854 (fun x206 => ?_)
  refine G_callVI (as := [vI x204, vI x206]) (st := []) (c := 12) (bc2 := (4 * F)) (bs2 := (24 * F)) (pc := 855) dL_law_855 z_mX12_lines z_vX12_lines z_wL_167 (gX12_lines hst fu s201 a2 x204 x206) rfl rfl (by decide) rfl rfl ⟨by decide, by decide, by omega, by omega, Nat.le_of_ble_eq_true rfl⟩ rfl (fun x208 s207 => ?_)
  refine G_istore (lv' := [vA K.2.2.2.2.2.1, vR a1, vR a2, vR a3, vI a4, vI x202, vI x208, vU]) (pc := 858) dL_law_858 rfl ?_
  refine G_goto (tgt := 1338) (pc := 860) dL_law_860 ?_
  refine G_less (bc2 := (4 * F)) (bs2 := (24 * F)) (by omega) (by omega) ?_
  refine G_fg (lv2 := [vA K.2.2.2.2.2.1, vR a1, vR a2, vR a3, vI a4, vU, vU, vU]) ⟨Or.inr rfl, Or.inr rfl, Or.inr rfl, Or.inr rfl, Or.inr rfl, Or.inl rfl, Or.inl rfl, Or.inl rfl, trivial⟩ ?_
  exact gL_law_J1338 hst fu F s207 a1 a2 a3 a4 _ _ (fun w v4 => hr w v4) hk
def fL_law_J863 (fu L : Nat) (xs : Nat → Int32) (s : z_M) (a1 : Int) (a2 : Int) (a3 : Int) (a4 : Int) (r : z_M → Int → z_O) (k : z_M → z_O) : z_O := z_let (z_w (a4 + 1)) (fun x209 => if 0 ≤ x209 ∧ x209 < (L : Int) then z_let (Int32.toInt (xs (Int.toNat x209))) (fun x210 => z_bI (fL_least fu s a1 x210 a3) (fun x212 s211 => z_let (z_w (a4 + 1)) (fun x213 => if 0 ≤ x213 ∧ x213 < (L : Int) then z_let (Int32.toInt (xs (Int.toNat x213))) (fun x214 => if z_ob a2 12 then z_bI (fX12_least fu s211 a2 x214) (fun x216 s215 => fL_law_J1338 fu L xs s215 a1 a2 a3 a4 (fun w v4 => r w v4) k) else none) else none))) else none)
theorem gL_law_J863 {l : Launch} {K : z_K} (hst : l.stackTraces = false) (fu F : Nat) (s : z_M) (a1 : Int) (a2 : Int) (a3 : Int) (a4 : Int) (r : z_M → Int → z_O) (k : z_M → z_O) (hr : ∀ (s : z_M) (a4 : Int), G l K mL_law 13 295 (4 * F) (24 * F) 23 [vA K.2.2.2.2.2.1, vR a1, vR a2, vR a3, vI a4, vU, vU, vU] [] s (r s a4)) (hk : ∀ (s : z_M), G l K mL_law 13 295 0 0 1344 [vA K.2.2.2.2.2.1, vU, vU, vU, vU, vU, vU, vU] [] s (k s)) : G l K mL_law 13 295 (4 * F + 1) (24 * F + 6) 863 [vA K.2.2.2.2.2.1, vR a1, vR a2, vR a3, vI a4, vU, vU, vU] [] s (fL_law_J863 fu K.2.2.2.2.2.2.1 K.2.2.2.2.2.2.2 s a1 a2 a3 a4 r k) := by
  unfold fL_law_J863
  refine G_aload_n (x := a1) (pc := 863) dL_law_863 rfl ?_
  refine G_sload_n (pc := 864) dL_law_864 rfl ?_
  refine G_iload (x := a4) (pc := 865) dL_law_865 rfl ?_
  refine G_iconst (pc := 867) dL_law_867 ?_
  refine G_iadd (pc := 868) dL_law_868 (fun x209 => ?_)
  refine G_sald (pc := 869) dL_law_869 (fun x210 => ?_)
  refine G_aload_n (x := a3) (pc := 870) dL_law_870 rfl ?_
  refine G_callSI (as := [vR a1, vI x210, vR a3]) (st := []) (bc2 := (4 * F)) (bs2 := (24 * F)) (pc := 871) dL_law_871 z_mL_least z_sL_least z_wL_168 (gL_least hst fu s a1 x210 a3) rfl rfl ⟨by decide, by decide, by omega, by omega, Nat.le_of_ble_eq_true rfl⟩ rfl (fun x212 s211 => ?_)
  refine G_istore (lv' := [vA K.2.2.2.2.2.1, vR a1, vR a2, vR a3, vI a4, vI x212, vU, vU]) (pc := 874) dL_law_874 rfl ?_
  refine G_aload_n (x := a2) (pc := 876) dL_law_876 rfl ?_
  refine G_sload_n (pc := 877) dL_law_877 rfl ?_
  refine G_iload (x := a4) (pc := 878) dL_law_878 rfl ?_
  refine G_iconst (pc := 880) dL_law_880 ?_
  refine G_iadd (pc := 881) dL_law_881 (fun x213 => ?_)
  refine G_sald (pc := 882) dL_law_882 (fun x214 => ?_)
  refine G_callVI (as := [vI x214]) (st := []) (c := 12) (bc2 := (4 * F)) (bs2 := (24 * F)) (pc := 883) dL_law_883 z_mX12_least z_vX12_least z_wL_170 (gX12_least hst fu s211 a2 x214) rfl rfl (by decide) rfl rfl ⟨by decide, by decide, by omega, by omega, Nat.le_of_ble_eq_true rfl⟩ rfl (fun x216 s215 => ?_)
  refine G_istore (lv' := [vA K.2.2.2.2.2.1, vR a1, vR a2, vR a3, vI a4, vI x212, vI x216, vU]) (pc := 886) dL_law_886 rfl ?_
  refine G_goto (tgt := 1338) (pc := 888) dL_law_888 ?_
  refine G_less (bc2 := (4 * F)) (bs2 := (24 * F)) (by omega) (by omega) ?_
  refine G_fg (lv2 := [vA K.2.2.2.2.2.1, vR a1, vR a2, vR a3, vI a4, vU, vU, vU]) ⟨Or.inr rfl, Or.inr rfl, Or.inr rfl, Or.inr rfl, Or.inr rfl, Or.inl rfl, Or.inl rfl, Or.inl rfl, trivial⟩ ?_
  exact gL_law_J1338 hst fu F s215 a1 a2 a3 a4 _ _ (fun w v4 => hr w v4) hk
def fL_law_J891 (fu L : Nat) (xs : Nat → Int32) (s : z_M) (a1 : Int) (a2 : Int) (a3 : Int) (a4 : Int) (r : z_M → Int → z_O) (k : z_M → z_O) : z_O := if z_ob a1 11 then z_bL (fX11_better fu s a1) (fun x218 s217 => if z_ob a2 12 then z_bL (fX12_better fu s217 a2) (fun x220 s219 => fL_law_J1338 fu L xs s219 a1 a2 a3 a4 (fun w v4 => r w v4) k) else none) else none
theorem gL_law_J891 {l : Launch} {K : z_K} (hst : l.stackTraces = false) (fu F : Nat) (s : z_M) (a1 : Int) (a2 : Int) (a3 : Int) (a4 : Int) (r : z_M → Int → z_O) (k : z_M → z_O) (hr : ∀ (s : z_M) (a4 : Int), G l K mL_law 13 295 (4 * F) (24 * F) 23 [vA K.2.2.2.2.2.1, vR a1, vR a2, vR a3, vI a4, vU, vU, vU] [] s (r s a4)) (hk : ∀ (s : z_M), G l K mL_law 13 295 0 0 1344 [vA K.2.2.2.2.2.1, vU, vU, vU, vU, vU, vU, vU] [] s (k s)) : G l K mL_law 13 295 (4 * F) (24 * F) 891 [vA K.2.2.2.2.2.1, vR a1, vR a2, vR a3, vI a4, vU, vU, vU] [] s (fL_law_J891 fu K.2.2.2.2.2.2.1 K.2.2.2.2.2.2.2 s a1 a2 a3 a4 r k) := by
  unfold fL_law_J891
  refine G_aload_n (x := a1) (pc := 891) dL_law_891 rfl ?_
  refine G_callVL (as := []) (st := []) (c := 11) (bc2 := (4 * F)) (bs2 := (24 * F)) (pc := 892) dL_law_892 z_mX11_better z_vX11_better z_wL_171 (gX11_better hst fu s a1) rfl rfl (by decide) rfl rfl ⟨by decide, by decide, by omega, by omega, Nat.le_of_ble_eq_true rfl⟩ rfl (fun x218 s217 => ?_)
  refine G_pop2 (pc := 895) dL_law_895 ?_
  refine G_aload_n (x := a2) (pc := 896) dL_law_896 rfl ?_
  refine G_callVL (as := []) (st := []) (c := 12) (bc2 := (4 * F)) (bs2 := (24 * F)) (pc := 897) dL_law_897 z_mX12_better z_vX12_better z_wL_175 (gX12_better hst fu s217 a2) rfl rfl (by decide) rfl rfl ⟨by decide, by decide, by omega, by omega, Nat.le_of_ble_eq_true rfl⟩ rfl (fun x220 s219 => ?_)
  refine G_pop2 (pc := 900) dL_law_900 ?_
  refine G_goto (tgt := 1338) (pc := 901) dL_law_901 ?_
  refine G_less (bc2 := (4 * F)) (bs2 := (24 * F)) (by omega) (by omega) ?_
  exact gL_law_J1338 hst fu F s219 a1 a2 a3 a4 _ _ (fun w v4 => hr w v4) hk
def fL_law_J904 (fu L : Nat) (xs : Nat → Int32) (s : z_M) (a1 : Int) (a2 : Int) (a3 : Int) (a4 : Int) (r : z_M → Int → z_O) (k : z_M → z_O) : z_O := z_let (z_w (a4 + 1)) (fun x221 => if 0 ≤ x221 ∧ x221 < (L : Int) then z_let (Int32.toInt (xs (Int.toNat x221))) (fun x222 => z_bI (fL_marks fu s a1 x222 a3) (fun x224 s223 => z_let (z_w (a4 + 1)) (fun x225 => if 0 ≤ x225 ∧ x225 < (L : Int) then z_let (Int32.toInt (xs (Int.toNat x225))) (fun x226 => if z_ob a2 12 then z_bI (fX12_marks fu s223 a2 x226) (fun x228 s227 => fL_law_J1338 fu L xs s227 a1 a2 a3 a4 (fun w v4 => r w v4) k) else none) else none))) else none)
theorem gL_law_J904 {l : Launch} {K : z_K} (hst : l.stackTraces = false) (fu F : Nat) (s : z_M) (a1 : Int) (a2 : Int) (a3 : Int) (a4 : Int) (r : z_M → Int → z_O) (k : z_M → z_O) (hr : ∀ (s : z_M) (a4 : Int), G l K mL_law 13 295 (4 * F) (24 * F) 23 [vA K.2.2.2.2.2.1, vR a1, vR a2, vR a3, vI a4, vU, vU, vU] [] s (r s a4)) (hk : ∀ (s : z_M), G l K mL_law 13 295 0 0 1344 [vA K.2.2.2.2.2.1, vU, vU, vU, vU, vU, vU, vU] [] s (k s)) : G l K mL_law 13 295 (4 * F + 1) (24 * F + 6) 904 [vA K.2.2.2.2.2.1, vR a1, vR a2, vR a3, vI a4, vU, vU, vU] [] s (fL_law_J904 fu K.2.2.2.2.2.2.1 K.2.2.2.2.2.2.2 s a1 a2 a3 a4 r k) := by
  unfold fL_law_J904
  refine G_aload_n (x := a1) (pc := 904) dL_law_904 rfl ?_
  refine G_sload_n (pc := 905) dL_law_905 rfl ?_
  refine G_iload (x := a4) (pc := 906) dL_law_906 rfl ?_
  refine G_iconst (pc := 908) dL_law_908 ?_
  refine G_iadd (pc := 909) dL_law_909 (fun x221 => ?_)
  refine G_sald (pc := 910) dL_law_910 (fun x222 => ?_)
  refine G_aload_n (x := a3) (pc := 911) dL_law_911 rfl ?_
  refine G_callSI (as := [vR a1, vI x222, vR a3]) (st := []) (bc2 := (4 * F)) (bs2 := (24 * F)) (pc := 912) dL_law_912 z_mL_marks z_sL_marks z_wL_176 (gL_marks hst fu s a1 x222 a3) rfl rfl ⟨by decide, by decide, by omega, by omega, Nat.le_of_ble_eq_true rfl⟩ rfl (fun x224 s223 => ?_)
  refine G_istore (lv' := [vA K.2.2.2.2.2.1, vR a1, vR a2, vR a3, vI a4, vI x224, vU, vU]) (pc := 915) dL_law_915 rfl ?_
  refine G_aload_n (x := a2) (pc := 917) dL_law_917 rfl ?_
  refine G_sload_n (pc := 918) dL_law_918 rfl ?_
  refine G_iload (x := a4) (pc := 919) dL_law_919 rfl ?_
  refine G_iconst (pc := 921) dL_law_921 ?_
  refine G_iadd (pc := 922) dL_law_922 (fun x225 => ?_)
  refine G_sald (pc := 923) dL_law_923 (fun x226 => ?_)
  refine G_callVI (as := [vI x226]) (st := []) (c := 12) (bc2 := (4 * F)) (bs2 := (24 * F)) (pc := 924) dL_law_924 z_mX12_marks z_vX12_marks z_wL_178 (gX12_marks hst fu s223 a2 x226) rfl rfl (by decide) rfl rfl ⟨by decide, by decide, by omega, by omega, Nat.le_of_ble_eq_true rfl⟩ rfl (fun x228 s227 => ?_)
  refine G_istore (lv' := [vA K.2.2.2.2.2.1, vR a1, vR a2, vR a3, vI a4, vI x224, vI x228, vU]) (pc := 927) dL_law_927 rfl ?_
  refine G_goto (tgt := 1338) (pc := 929) dL_law_929 ?_
  refine G_less (bc2 := (4 * F)) (bs2 := (24 * F)) (by omega) (by omega) ?_
  refine G_fg (lv2 := [vA K.2.2.2.2.2.1, vR a1, vR a2, vR a3, vI a4, vU, vU, vU]) ⟨Or.inr rfl, Or.inr rfl, Or.inr rfl, Or.inr rfl, Or.inr rfl, Or.inl rfl, Or.inl rfl, Or.inl rfl, trivial⟩ ?_
  exact gL_law_J1338 hst fu F s227 a1 a2 a3 a4 _ _ (fun w v4 => hr w v4) hk
def fL_law_J932 (fu L : Nat) (xs : Nat → Int32) (s : z_M) (a1 : Int) (a2 : Int) (a3 : Int) (a4 : Int) (r : z_M → Int → z_O) (k : z_M → z_O) : z_O := if z_ob a1 11 then z_bI (fX11_moves fu s a1) (fun x230 s229 => if z_ob a2 12 then z_bI (fX12_moves fu s229 a2) (fun x232 s231 => fL_law_J1338 fu L xs s231 a1 a2 a3 a4 (fun w v4 => r w v4) k) else none) else none
theorem gL_law_J932 {l : Launch} {K : z_K} (hst : l.stackTraces = false) (fu F : Nat) (s : z_M) (a1 : Int) (a2 : Int) (a3 : Int) (a4 : Int) (r : z_M → Int → z_O) (k : z_M → z_O) (hr : ∀ (s : z_M) (a4 : Int), G l K mL_law 13 295 (4 * F) (24 * F) 23 [vA K.2.2.2.2.2.1, vR a1, vR a2, vR a3, vI a4, vU, vU, vU] [] s (r s a4)) (hk : ∀ (s : z_M), G l K mL_law 13 295 0 0 1344 [vA K.2.2.2.2.2.1, vU, vU, vU, vU, vU, vU, vU] [] s (k s)) : G l K mL_law 13 295 (4 * F) (24 * F) 932 [vA K.2.2.2.2.2.1, vR a1, vR a2, vR a3, vI a4, vU, vU, vU] [] s (fL_law_J932 fu K.2.2.2.2.2.2.1 K.2.2.2.2.2.2.2 s a1 a2 a3 a4 r k) := by
  unfold fL_law_J932
  refine G_aload_n (x := a1) (pc := 932) dL_law_932 rfl ?_
  refine G_callVI (as := []) (st := []) (c := 11) (bc2 := (4 * F)) (bs2 := (24 * F)) (pc := 933) dL_law_933 z_mX11_moves z_vX11_moves z_wL_179 (gX11_moves hst fu s a1) rfl rfl (by decide) rfl rfl ⟨by decide, by decide, by omega, by omega, Nat.le_of_ble_eq_true rfl⟩ rfl (fun x230 s229 => ?_)
  refine G_popI (pc := 936) dL_law_936 ?_
  refine G_aload_n (x := a2) (pc := 937) dL_law_937 rfl ?_
  refine G_callVI (as := []) (st := []) (c := 12) (bc2 := (4 * F)) (bs2 := (24 * F)) (pc := 938) dL_law_938 z_mX12_moves z_vX12_moves z_wL_182 (gX12_moves hst fu s229 a2) rfl rfl (by decide) rfl rfl ⟨by decide, by decide, by omega, by omega, Nat.le_of_ble_eq_true rfl⟩ rfl (fun x232 s231 => ?_)
  refine G_popI (pc := 941) dL_law_941 ?_
  refine G_goto (tgt := 1338) (pc := 942) dL_law_942 ?_
  refine G_less (bc2 := (4 * F)) (bs2 := (24 * F)) (by omega) (by omega) ?_
  exact gL_law_J1338 hst fu F s231 a1 a2 a3 a4 _ _ (fun w v4 => hr w v4) hk
def fL_law_J945 (fu L : Nat) (xs : Nat → Int32) (s : z_M) (a1 : Int) (a2 : Int) (a3 : Int) (a4 : Int) (r : z_M → Int → z_O) (k : z_M → z_O) : z_O := z_let (z_w (a4 + 1)) (fun x233 => if 0 ≤ x233 ∧ x233 < (L : Int) then z_let (Int32.toInt (xs (Int.toNat x233))) (fun x234 => z_bI (fL_lend fu s a1 x234 a3) (fun x236 s235 => z_let (z_w (a4 + 1)) (fun x237 => if 0 ≤ x237 ∧ x237 < (L : Int) then z_let (Int32.toInt (xs (Int.toNat x237))) (fun x238 => if z_ob a2 12 then z_bI (fX12_lend fu s235 a2 x238) (fun x240 s239 => fL_law_J1338 fu L xs s239 a1 a2 a3 a4 (fun w v4 => r w v4) k) else none) else none))) else none)
theorem gL_law_J945 {l : Launch} {K : z_K} (hst : l.stackTraces = false) (fu F : Nat) (s : z_M) (a1 : Int) (a2 : Int) (a3 : Int) (a4 : Int) (r : z_M → Int → z_O) (k : z_M → z_O) (hr : ∀ (s : z_M) (a4 : Int), G l K mL_law 13 295 (4 * F) (24 * F) 23 [vA K.2.2.2.2.2.1, vR a1, vR a2, vR a3, vI a4, vU, vU, vU] [] s (r s a4)) (hk : ∀ (s : z_M), G l K mL_law 13 295 0 0 1344 [vA K.2.2.2.2.2.1, vU, vU, vU, vU, vU, vU, vU] [] s (k s)) : G l K mL_law 13 295 (4 * F + 1) (24 * F + 6) 945 [vA K.2.2.2.2.2.1, vR a1, vR a2, vR a3, vI a4, vU, vU, vU] [] s (fL_law_J945 fu K.2.2.2.2.2.2.1 K.2.2.2.2.2.2.2 s a1 a2 a3 a4 r k) := by
  unfold fL_law_J945
  refine G_aload_n (x := a1) (pc := 945) dL_law_945 rfl ?_
  refine G_sload_n (pc := 946) dL_law_946 rfl ?_
  refine G_iload (x := a4) (pc := 947) dL_law_947 rfl ?_
  refine G_iconst (pc := 949) dL_law_949 ?_
  refine G_iadd (pc := 950) dL_law_950 (fun x233 => ?_)
  refine G_sald (pc := 951) dL_law_951 (fun x234 => ?_)
  refine G_aload_n (x := a3) (pc := 952) dL_law_952 rfl ?_
  refine G_callSI (as := [vR a1, vI x234, vR a3]) (st := []) (bc2 := (4 * F)) (bs2 := (24 * F)) (pc := 953) dL_law_953 z_mL_lend z_sL_lend z_wL_183 (gL_lend hst fu s a1 x234 a3) rfl rfl ⟨by decide, by decide, by omega, by omega, Nat.le_of_ble_eq_true rfl⟩ rfl (fun x236 s235 => ?_)
  refine G_istore (lv' := [vA K.2.2.2.2.2.1, vR a1, vR a2, vR a3, vI a4, vI x236, vU, vU]) (pc := 956) dL_law_956 rfl ?_
  refine G_aload_n (x := a2) (pc := 958) dL_law_958 rfl ?_
  refine G_sload_n (pc := 959) dL_law_959 rfl ?_
  refine G_iload (x := a4) (pc := 960) dL_law_960 rfl ?_
  refine G_iconst (pc := 962) dL_law_962 ?_
  refine G_iadd (pc := 963) dL_law_963 (fun x237 => ?_)
  refine G_sald (pc := 964) dL_law_964 (fun x238 => ?_)
  refine G_callVI (as := [vI x238]) (st := []) (c := 12) (bc2 := (4 * F)) (bs2 := (24 * F)) (pc := 965) dL_law_965 z_mX12_lend z_vX12_lend z_wL_185 (gX12_lend hst fu s235 a2 x238) rfl rfl (by decide) rfl rfl ⟨by decide, by decide, by omega, by omega, Nat.le_of_ble_eq_true rfl⟩ rfl (fun x240 s239 => ?_)
  refine G_istore (lv' := [vA K.2.2.2.2.2.1, vR a1, vR a2, vR a3, vI a4, vI x236, vI x240, vU]) (pc := 968) dL_law_968 rfl ?_
  refine G_goto (tgt := 1338) (pc := 970) dL_law_970 ?_
  refine G_less (bc2 := (4 * F)) (bs2 := (24 * F)) (by omega) (by omega) ?_
  refine G_fg (lv2 := [vA K.2.2.2.2.2.1, vR a1, vR a2, vR a3, vI a4, vU, vU, vU]) ⟨Or.inr rfl, Or.inr rfl, Or.inr rfl, Or.inr rfl, Or.inr rfl, Or.inl rfl, Or.inl rfl, Or.inl rfl, trivial⟩ ?_
  exact gL_law_J1338 hst fu F s239 a1 a2 a3 a4 _ _ (fun w v4 => hr w v4) hk
def fL_law_J973 (fu L : Nat) (xs : Nat → Int32) (s : z_M) (a1 : Int) (a2 : Int) (a3 : Int) (a4 : Int) (r : z_M → Int → z_O) (k : z_M → z_O) : z_O := z_let (z_w (a4 + 1)) (fun x241 => if 0 ≤ x241 ∧ x241 < (L : Int) then z_let (Int32.toInt (xs (Int.toNat x241))) (fun x242 => z_bI (fL_nearest fu s a1 x242 a3) (fun x244 s243 => z_let (z_w (a4 + 1)) (fun x245 => if 0 ≤ x245 ∧ x245 < (L : Int) then z_let (Int32.toInt (xs (Int.toNat x245))) (fun x246 => if z_ob a2 12 then z_bI (fX12_nearest fu s243 a2 x246) (fun x248 s247 => fL_law_J1338 fu L xs s247 a1 a2 a3 a4 (fun w v4 => r w v4) k) else none) else none))) else none)
theorem gL_law_J973 {l : Launch} {K : z_K} (hst : l.stackTraces = false) (fu F : Nat) (s : z_M) (a1 : Int) (a2 : Int) (a3 : Int) (a4 : Int) (r : z_M → Int → z_O) (k : z_M → z_O) (hr : ∀ (s : z_M) (a4 : Int), G l K mL_law 13 295 (4 * F) (24 * F) 23 [vA K.2.2.2.2.2.1, vR a1, vR a2, vR a3, vI a4, vU, vU, vU] [] s (r s a4)) (hk : ∀ (s : z_M), G l K mL_law 13 295 0 0 1344 [vA K.2.2.2.2.2.1, vU, vU, vU, vU, vU, vU, vU] [] s (k s)) : G l K mL_law 13 295 (4 * F + 1) (24 * F + 6) 973 [vA K.2.2.2.2.2.1, vR a1, vR a2, vR a3, vI a4, vU, vU, vU] [] s (fL_law_J973 fu K.2.2.2.2.2.2.1 K.2.2.2.2.2.2.2 s a1 a2 a3 a4 r k) := by
  unfold fL_law_J973
  refine G_aload_n (x := a1) (pc := 973) dL_law_973 rfl ?_
  refine G_sload_n (pc := 974) dL_law_974 rfl ?_
  refine G_iload (x := a4) (pc := 975) dL_law_975 rfl ?_
  refine G_iconst (pc := 977) dL_law_977 ?_
  refine G_iadd (pc := 978) dL_law_978 (fun x241 => ?_)
  refine G_sald (pc := 979) dL_law_979 (fun x242 => ?_)
  refine G_aload_n (x := a3) (pc := 980) dL_law_980 rfl ?_
  refine G_callSI (as := [vR a1, vI x242, vR a3]) (st := []) (bc2 := (4 * F)) (bs2 := (24 * F)) (pc := 981) dL_law_981 z_mL_nearest z_sL_nearest z_wL_186 (gL_nearest hst fu s a1 x242 a3) rfl rfl ⟨by decide, by decide, by omega, by omega, Nat.le_of_ble_eq_true rfl⟩ rfl (fun x244 s243 => ?_)
  refine G_istore (lv' := [vA K.2.2.2.2.2.1, vR a1, vR a2, vR a3, vI a4, vI x244, vU, vU]) (pc := 984) dL_law_984 rfl ?_
  refine G_aload_n (x := a2) (pc := 986) dL_law_986 rfl ?_
  refine G_sload_n (pc := 987) dL_law_987 rfl ?_
  refine G_iload (x := a4) (pc := 988) dL_law_988 rfl ?_
  refine G_iconst (pc := 990) dL_law_990 ?_
  refine G_iadd (pc := 991) dL_law_991 (fun x245 => ?_)
  refine G_sald (pc := 992) dL_law_992 (fun x246 => ?_)
  refine G_callVI (as := [vI x246]) (st := []) (c := 12) (bc2 := (4 * F)) (bs2 := (24 * F)) (pc := 993) dL_law_993 z_mX12_nearest z_vX12_nearest z_wL_188 (gX12_nearest hst fu s243 a2 x246) rfl rfl (by decide) rfl rfl ⟨by decide, by decide, by omega, by omega, Nat.le_of_ble_eq_true rfl⟩ rfl (fun x248 s247 => ?_)
  refine G_istore (lv' := [vA K.2.2.2.2.2.1, vR a1, vR a2, vR a3, vI a4, vI x244, vI x248, vU]) (pc := 996) dL_law_996 rfl ?_
  refine G_goto (tgt := 1338) (pc := 998) dL_law_998 ?_
  refine G_less (bc2 := (4 * F)) (bs2 := (24 * F)) (by omega) (by omega) ?_
  refine G_fg (lv2 := [vA K.2.2.2.2.2.1, vR a1, vR a2, vR a3, vI a4, vU, vU, vU]) ⟨Or.inr rfl, Or.inr rfl, Or.inr rfl, Or.inr rfl, Or.inr rfl, Or.inl rfl, Or.inl rfl, Or.inl rfl, trivial⟩ ?_
  exact gL_law_J1338 hst fu F s247 a1 a2 a3 a4 _ _ (fun w v4 => hr w v4) hk
def fL_law_J1001 (fu L : Nat) (xs : Nat → Int32) (s : z_M) (a1 : Int) (a2 : Int) (a3 : Int) (a4 : Int) (r : z_M → Int → z_O) (k : z_M → z_O) : z_O := z_let (z_w (a4 + 1)) (fun x249 => if 0 ≤ x249 ∧ x249 < (L : Int) then z_let (Int32.toInt (xs (Int.toNat x249))) (fun x250 => z_bI (fL_partner fu s a1 x250 a3) (fun x252 s251 => z_let (z_w (a4 + 1)) (fun x253 => if 0 ≤ x253 ∧ x253 < (L : Int) then z_let (Int32.toInt (xs (Int.toNat x253))) (fun x254 => if z_ob a2 12 then z_bI (fX12_partner fu s251 a2 x254) (fun x256 s255 => fL_law_J1338 fu L xs s255 a1 a2 a3 a4 (fun w v4 => r w v4) k) else none) else none))) else none)
theorem gL_law_J1001 {l : Launch} {K : z_K} (hst : l.stackTraces = false) (fu F : Nat) (s : z_M) (a1 : Int) (a2 : Int) (a3 : Int) (a4 : Int) (r : z_M → Int → z_O) (k : z_M → z_O) (hr : ∀ (s : z_M) (a4 : Int), G l K mL_law 13 295 (4 * F) (24 * F) 23 [vA K.2.2.2.2.2.1, vR a1, vR a2, vR a3, vI a4, vU, vU, vU] [] s (r s a4)) (hk : ∀ (s : z_M), G l K mL_law 13 295 0 0 1344 [vA K.2.2.2.2.2.1, vU, vU, vU, vU, vU, vU, vU] [] s (k s)) : G l K mL_law 13 295 (4 * F + 1) (24 * F + 6) 1001 [vA K.2.2.2.2.2.1, vR a1, vR a2, vR a3, vI a4, vU, vU, vU] [] s (fL_law_J1001 fu K.2.2.2.2.2.2.1 K.2.2.2.2.2.2.2 s a1 a2 a3 a4 r k) := by
  unfold fL_law_J1001
  refine G_aload_n (x := a1) (pc := 1001) dL_law_1001 rfl ?_
  refine G_sload_n (pc := 1002) dL_law_1002 rfl ?_
  refine G_iload (x := a4) (pc := 1003) dL_law_1003 rfl ?_
  refine G_iconst (pc := 1005) dL_law_1005 ?_
  refine G_iadd (pc := 1006) dL_law_1006 (fun x249 => ?_)
  refine G_sald (pc := 1007) dL_law_1007 (fun x250 => ?_)
  refine G_aload_n (x := a3) (pc := 1008) dL_law_1008 rfl ?_
  refine G_callSI (as := [vR a1, vI x250, vR a3]) (st := []) (bc2 := (4 * F)) (bs2 := (24 * F)) (pc := 1009) dL_law_1009 z_mL_partner z_sL_partner z_wL_189 (gL_partner hst fu s a1 x250 a3) rfl rfl ⟨by decide, by decide, by omega, by omega, Nat.le_of_ble_eq_true rfl⟩ rfl (fun x252 s251 => ?_)
  refine G_istore (lv' := [vA K.2.2.2.2.2.1, vR a1, vR a2, vR a3, vI a4, vI x252, vU, vU]) (pc := 1012) dL_law_1012 rfl ?_
  refine G_aload_n (x := a2) (pc := 1014) dL_law_1014 rfl ?_
  refine G_sload_n (pc := 1015) dL_law_1015 rfl ?_
  refine G_iload (x := a4) (pc := 1016) dL_law_1016 rfl ?_
  refine G_iconst (pc := 1018) dL_law_1018 ?_
  refine G_iadd (pc := 1019) dL_law_1019 (fun x253 => ?_)
  refine G_sald (pc := 1020) dL_law_1020 (fun x254 => ?_)
  refine G_callVI (as := [vI x254]) (st := []) (c := 12) (bc2 := (4 * F)) (bs2 := (24 * F)) (pc := 1021) dL_law_1021 z_mX12_partner z_vX12_partner z_wL_191 (gX12_partner hst fu s251 a2 x254) rfl rfl (by decide) rfl rfl ⟨by decide, by decide, by omega, by omega, Nat.le_of_ble_eq_true rfl⟩ rfl (fun x256 s255 => ?_)
  refine G_istore (lv' := [vA K.2.2.2.2.2.1, vR a1, vR a2, vR a3, vI a4, vI x252, vI x256, vU]) (pc := 1024) dL_law_1024 rfl ?_
  refine G_goto (tgt := 1338) (pc := 1026) dL_law_1026 ?_
  refine G_less (bc2 := (4 * F)) (bs2 := (24 * F)) (by omega) (by omega) ?_
  refine G_fg (lv2 := [vA K.2.2.2.2.2.1, vR a1, vR a2, vR a3, vI a4, vU, vU, vU]) ⟨Or.inr rfl, Or.inr rfl, Or.inr rfl, Or.inr rfl, Or.inr rfl, Or.inl rfl, Or.inl rfl, Or.inl rfl, trivial⟩ ?_
  exact gL_law_J1338 hst fu F s255 a1 a2 a3 a4 _ _ (fun w v4 => hr w v4) hk
def fL_law_J1029 (fu L : Nat) (xs : Nat → Int32) (s : z_M) (a1 : Int) (a2 : Int) (a3 : Int) (a4 : Int) (r : z_M → Int → z_O) (k : z_M → z_O) : z_O := z_let (z_w (a4 + 1)) (fun x257 => if 0 ≤ x257 ∧ x257 < (L : Int) then z_let (Int32.toInt (xs (Int.toNat x257))) (fun x258 => z_let (z_w (a4 + 2)) (fun x259 => if 0 ≤ x259 ∧ x259 < (L : Int) then z_let (Int32.toInt (xs (Int.toNat x259))) (fun x260 => z_let (z_w (a4 + 3)) (fun x261 => if 0 ≤ x261 ∧ x261 < (L : Int) then z_let (Int32.toInt (xs (Int.toNat x261))) (fun x262 => z_bI (fL_side fu s a1 x258 x260 x262 a3) (fun x264 s263 => z_let (z_w (a4 + 1)) (fun x265 => if 0 ≤ x265 ∧ x265 < (L : Int) then z_let (Int32.toInt (xs (Int.toNat x265))) (fun x266 => z_let (z_w (a4 + 2)) (fun x267 => if 0 ≤ x267 ∧ x267 < (L : Int) then z_let (Int32.toInt (xs (Int.toNat x267))) (fun x268 => z_let (z_w (a4 + 3)) (fun x269 => if 0 ≤ x269 ∧ x269 < (L : Int) then z_let (Int32.toInt (xs (Int.toNat x269))) (fun x270 => if z_ob a2 12 then z_bI (fX12_side fu s263 a2 x266 x268 x270) (fun x272 s271 => fL_law_J1338 fu L xs s271 a1 a2 a3 a4 (fun w v4 => r w v4) k) else none) else none)) else none)) else none))) else none)) else none)) else none)
theorem gL_law_J1029 {l : Launch} {K : z_K} (hst : l.stackTraces = false) (fu F : Nat) (s : z_M) (a1 : Int) (a2 : Int) (a3 : Int) (a4 : Int) (r : z_M → Int → z_O) (k : z_M → z_O) (hr : ∀ (s : z_M) (a4 : Int), G l K mL_law 13 295 (4 * F) (24 * F) 23 [vA K.2.2.2.2.2.1, vR a1, vR a2, vR a3, vI a4, vU, vU, vU] [] s (r s a4)) (hk : ∀ (s : z_M), G l K mL_law 13 295 0 0 1344 [vA K.2.2.2.2.2.1, vU, vU, vU, vU, vU, vU, vU] [] s (k s)) : G l K mL_law 13 295 (4 * F + 3) (24 * F + 18) 1029 [vA K.2.2.2.2.2.1, vR a1, vR a2, vR a3, vI a4, vU, vU, vU] [] s (fL_law_J1029 fu K.2.2.2.2.2.2.1 K.2.2.2.2.2.2.2 s a1 a2 a3 a4 r k) := by
  unfold fL_law_J1029
  refine G_aload_n (x := a1) (pc := 1029) dL_law_1029 rfl ?_
  refine G_sload_n (pc := 1030) dL_law_1030 rfl ?_
  refine G_iload (x := a4) (pc := 1031) dL_law_1031 rfl ?_
  refine G_iconst (pc := 1033) dL_law_1033 ?_
  refine G_iadd (pc := 1034) dL_law_1034 (fun x257 => ?_)
  refine G_sald (pc := 1035) dL_law_1035 (fun x258 => ?_)
  refine G_sload_n (pc := 1036) dL_law_1036 rfl ?_
  refine G_iload (x := a4) (pc := 1037) dL_law_1037 rfl ?_
  refine G_iconst (pc := 1039) dL_law_1039 ?_
  refine G_iadd (pc := 1040) dL_law_1040 (fun x259 => ?_)
  refine G_sald (pc := 1041) dL_law_1041 (fun x260 => ?_)
  refine G_sload_n (pc := 1042) dL_law_1042 rfl ?_
  refine G_iload (x := a4) (pc := 1043) dL_law_1043 rfl ?_
  refine G_iconst (pc := 1045) dL_law_1045 ?_
  refine G_iadd (pc := 1046) dL_law_1046 (fun x261 => ?_)
  refine G_sald (pc := 1047) dL_law_1047 (fun x262 => ?_)
  refine G_aload_n (x := a3) (pc := 1048) dL_law_1048 rfl ?_
  refine G_callSI (as := [vR a1, vI x258, vI x260, vI x262, vR a3]) (st := []) (bc2 := (4 * F)) (bs2 := (24 * F)) (pc := 1049) dL_law_1049 z_mL_side z_sL_side z_wL_192 (gL_side hst fu s a1 x258 x260 x262 a3) rfl rfl ⟨by decide, by decide, by omega, by omega, Nat.le_of_ble_eq_true rfl⟩ rfl (fun x264 s263 => ?_)
  refine G_istore (lv' := [vA K.2.2.2.2.2.1, vR a1, vR a2, vR a3, vI a4, vI x264, vU, vU]) (pc := 1052) dL_law_1052 rfl ?_
  refine G_aload_n (x := a2) (pc := 1054) dL_law_1054 rfl ?_
  refine G_sload_n (pc := 1055) dL_law_1055 rfl ?_
  refine G_iload (x := a4) (pc := 1056) dL_law_1056 rfl ?_
  refine G_iconst (pc := 1058) dL_law_1058 ?_
  refine G_iadd (pc := 1059) dL_law_1059 (fun x265 => ?_)
  refine G_sald (pc := 1060) dL_law_1060 (fun x266 => ?_)
  refine G_sload_n (pc := 1061) dL_law_1061 rfl ?_
  refine G_iload (x := a4) (pc := 1062) dL_law_1062 rfl ?_
  refine G_iconst (pc := 1064) dL_law_1064 ?_
  refine G_iadd (pc := 1065) dL_law_1065 (fun x267 => ?_)
  refine G_sald (pc := 1066) dL_law_1066 (fun x268 => ?_)
  refine G_sload_n (pc := 1067) dL_law_1067 rfl ?_
  refine G_iload (x := a4) (pc := 1068) dL_law_1068 rfl ?_
  refine G_iconst (pc := 1070) dL_law_1070 ?_
  refine G_iadd (pc := 1071) dL_law_1071 (fun x269 => ?_)
  refine G_sald (pc := 1072) dL_law_1072 (fun x270 => ?_)
  refine G_callVI (as := [vI x266, vI x268, vI x270]) (st := []) (c := 12) (bc2 := (4 * F)) (bs2 := (24 * F)) (pc := 1073) dL_law_1073 z_mX12_side z_vX12_side z_wL_195 (gX12_side hst fu s263 a2 x266 x268 x270) rfl rfl (by decide) rfl rfl ⟨by decide, by decide, by omega, by omega, Nat.le_of_ble_eq_true rfl⟩ rfl (fun x272 s271 => ?_)
  refine G_istore (lv' := [vA K.2.2.2.2.2.1, vR a1, vR a2, vR a3, vI a4, vI x264, vI x272, vU]) (pc := 1076) dL_law_1076 rfl ?_
  refine G_goto (tgt := 1338) (pc := 1078) dL_law_1078 ?_
  refine G_less (bc2 := (4 * F)) (bs2 := (24 * F)) (by omega) (by omega) ?_
  refine G_fg (lv2 := [vA K.2.2.2.2.2.1, vR a1, vR a2, vR a3, vI a4, vU, vU, vU]) ⟨Or.inr rfl, Or.inr rfl, Or.inr rfl, Or.inr rfl, Or.inr rfl, Or.inl rfl, Or.inl rfl, Or.inl rfl, trivial⟩ ?_
  exact gL_law_J1338 hst fu F s271 a1 a2 a3 a4 _ _ (fun w v4 => hr w v4) hk
def fL_law_J1081 (fu L : Nat) (xs : Nat → Int32) (s : z_M) (a1 : Int) (a2 : Int) (a3 : Int) (a4 : Int) (r : z_M → Int → z_O) (k : z_M → z_O) : z_O := z_let (z_w (a4 + 1)) (fun x273 => if 0 ≤ x273 ∧ x273 < (L : Int) then z_let (Int32.toInt (xs (Int.toNat x273))) (fun x274 => z_bI (fL_gutter fu s a1 x274 a3) (fun x276 s275 => z_let (z_w (a4 + 1)) (fun x277 => if 0 ≤ x277 ∧ x277 < (L : Int) then z_let (Int32.toInt (xs (Int.toNat x277))) (fun x278 => if z_ob a2 12 then z_bI (fX12_gutter fu s275 a2 x278) (fun x280 s279 => fL_law_J1338 fu L xs s279 a1 a2 a3 a4 (fun w v4 => r w v4) k) else none) else none))) else none)
theorem gL_law_J1081 {l : Launch} {K : z_K} (hst : l.stackTraces = false) (fu F : Nat) (s : z_M) (a1 : Int) (a2 : Int) (a3 : Int) (a4 : Int) (r : z_M → Int → z_O) (k : z_M → z_O) (hr : ∀ (s : z_M) (a4 : Int), G l K mL_law 13 295 (4 * F) (24 * F) 23 [vA K.2.2.2.2.2.1, vR a1, vR a2, vR a3, vI a4, vU, vU, vU] [] s (r s a4)) (hk : ∀ (s : z_M), G l K mL_law 13 295 0 0 1344 [vA K.2.2.2.2.2.1, vU, vU, vU, vU, vU, vU, vU] [] s (k s)) : G l K mL_law 13 295 (4 * F + 1) (24 * F + 6) 1081 [vA K.2.2.2.2.2.1, vR a1, vR a2, vR a3, vI a4, vU, vU, vU] [] s (fL_law_J1081 fu K.2.2.2.2.2.2.1 K.2.2.2.2.2.2.2 s a1 a2 a3 a4 r k) := by
  unfold fL_law_J1081
  refine G_aload_n (x := a1) (pc := 1081) dL_law_1081 rfl ?_
  refine G_sload_n (pc := 1082) dL_law_1082 rfl ?_
  refine G_iload (x := a4) (pc := 1083) dL_law_1083 rfl ?_
  refine G_iconst (pc := 1085) dL_law_1085 ?_
  refine G_iadd (pc := 1086) dL_law_1086 (fun x273 => ?_)
  refine G_sald (pc := 1087) dL_law_1087 (fun x274 => ?_)
  refine G_aload_n (x := a3) (pc := 1088) dL_law_1088 rfl ?_
  refine G_callSI (as := [vR a1, vI x274, vR a3]) (st := []) (bc2 := (4 * F)) (bs2 := (24 * F)) (pc := 1089) dL_law_1089 z_mL_gutter z_sL_gutter z_wL_196 (gL_gutter hst fu s a1 x274 a3) rfl rfl ⟨by decide, by decide, by omega, by omega, Nat.le_of_ble_eq_true rfl⟩ rfl (fun x276 s275 => ?_)
  refine G_istore (lv' := [vA K.2.2.2.2.2.1, vR a1, vR a2, vR a3, vI a4, vI x276, vU, vU]) (pc := 1092) dL_law_1092 rfl ?_
  refine G_aload_n (x := a2) (pc := 1094) dL_law_1094 rfl ?_
  refine G_sload_n (pc := 1095) dL_law_1095 rfl ?_
  refine G_iload (x := a4) (pc := 1096) dL_law_1096 rfl ?_
  refine G_iconst (pc := 1098) dL_law_1098 ?_
  refine G_iadd (pc := 1099) dL_law_1099 (fun x277 => ?_)
  refine G_sald (pc := 1100) dL_law_1100 (fun x278 => ?_)
  refine G_callVI (as := [vI x278]) (st := []) (c := 12) (bc2 := (4 * F)) (bs2 := (24 * F)) (pc := 1101) dL_law_1101 z_mX12_gutter z_vX12_gutter z_wL_198 (gX12_gutter hst fu s275 a2 x278) rfl rfl (by decide) rfl rfl ⟨by decide, by decide, by omega, by omega, Nat.le_of_ble_eq_true rfl⟩ rfl (fun x280 s279 => ?_)
  refine G_istore (lv' := [vA K.2.2.2.2.2.1, vR a1, vR a2, vR a3, vI a4, vI x276, vI x280, vU]) (pc := 1104) dL_law_1104 rfl ?_
  refine G_goto (tgt := 1338) (pc := 1106) dL_law_1106 ?_
  refine G_less (bc2 := (4 * F)) (bs2 := (24 * F)) (by omega) (by omega) ?_
  refine G_fg (lv2 := [vA K.2.2.2.2.2.1, vR a1, vR a2, vR a3, vI a4, vU, vU, vU]) ⟨Or.inr rfl, Or.inr rfl, Or.inr rfl, Or.inr rfl, Or.inr rfl, Or.inl rfl, Or.inl rfl, Or.inl rfl, trivial⟩ ?_
  exact gL_law_J1338 hst fu F s279 a1 a2 a3 a4 _ _ (fun w v4 => hr w v4) hk
def fL_law_J1109 (fu L : Nat) (xs : Nat → Int32) (s : z_M) (a1 : Int) (a2 : Int) (a3 : Int) (a4 : Int) (r : z_M → Int → z_O) (k : z_M → z_O) : z_O := z_let (z_w (a4 + 1)) (fun x281 => if 0 ≤ x281 ∧ x281 < (L : Int) then z_let (Int32.toInt (xs (Int.toNat x281))) (fun x282 => z_bI (fL_clash fu s a1 x282 a3) (fun x284 s283 => z_let (z_w (a4 + 1)) (fun x285 => if 0 ≤ x285 ∧ x285 < (L : Int) then z_let (Int32.toInt (xs (Int.toNat x285))) (fun x286 => if z_ob a2 12 then z_bI (fX12_clash fu s283 a2 x286) (fun x288 s287 => fL_law_J1338 fu L xs s287 a1 a2 a3 a4 (fun w v4 => r w v4) k) else none) else none))) else none)
theorem gL_law_J1109 {l : Launch} {K : z_K} (hst : l.stackTraces = false) (fu F : Nat) (s : z_M) (a1 : Int) (a2 : Int) (a3 : Int) (a4 : Int) (r : z_M → Int → z_O) (k : z_M → z_O) (hr : ∀ (s : z_M) (a4 : Int), G l K mL_law 13 295 (4 * F) (24 * F) 23 [vA K.2.2.2.2.2.1, vR a1, vR a2, vR a3, vI a4, vU, vU, vU] [] s (r s a4)) (hk : ∀ (s : z_M), G l K mL_law 13 295 0 0 1344 [vA K.2.2.2.2.2.1, vU, vU, vU, vU, vU, vU, vU] [] s (k s)) : G l K mL_law 13 295 (4 * F + 1) (24 * F + 6) 1109 [vA K.2.2.2.2.2.1, vR a1, vR a2, vR a3, vI a4, vU, vU, vU] [] s (fL_law_J1109 fu K.2.2.2.2.2.2.1 K.2.2.2.2.2.2.2 s a1 a2 a3 a4 r k) := by
  unfold fL_law_J1109
  refine G_aload_n (x := a1) (pc := 1109) dL_law_1109 rfl ?_
  refine G_sload_n (pc := 1110) dL_law_1110 rfl ?_
  refine G_iload (x := a4) (pc := 1111) dL_law_1111 rfl ?_
  refine G_iconst (pc := 1113) dL_law_1113 ?_
  refine G_iadd (pc := 1114) dL_law_1114 (fun x281 => ?_)
  refine G_sald (pc := 1115) dL_law_1115 (fun x282 => ?_)
  refine G_aload_n (x := a3) (pc := 1116) dL_law_1116 rfl ?_
  refine G_callSI (as := [vR a1, vI x282, vR a3]) (st := []) (bc2 := (4 * F)) (bs2 := (24 * F)) (pc := 1117) dL_law_1117 z_mL_clash z_sL_clash z_wL_199 (gL_clash hst fu s a1 x282 a3) rfl rfl ⟨by decide, by decide, by omega, by omega, Nat.le_of_ble_eq_true rfl⟩ rfl (fun x284 s283 => ?_)
  refine G_istore (lv' := [vA K.2.2.2.2.2.1, vR a1, vR a2, vR a3, vI a4, vI x284, vU, vU]) (pc := 1120) dL_law_1120 rfl ?_
  refine G_aload_n (x := a2) (pc := 1122) dL_law_1122 rfl ?_
  refine G_sload_n (pc := 1123) dL_law_1123 rfl ?_
  refine G_iload (x := a4) (pc := 1124) dL_law_1124 rfl ?_
  refine G_iconst (pc := 1126) dL_law_1126 ?_
  refine G_iadd (pc := 1127) dL_law_1127 (fun x285 => ?_)
  refine G_sald (pc := 1128) dL_law_1128 (fun x286 => ?_)
  refine G_callVI (as := [vI x286]) (st := []) (c := 12) (bc2 := (4 * F)) (bs2 := (24 * F)) (pc := 1129) dL_law_1129 z_mX12_clash z_vX12_clash z_wL_201 (gX12_clash hst fu s283 a2 x286) rfl rfl (by decide) rfl rfl ⟨by decide, by decide, by omega, by omega, Nat.le_of_ble_eq_true rfl⟩ rfl (fun x288 s287 => ?_)
  refine G_istore (lv' := [vA K.2.2.2.2.2.1, vR a1, vR a2, vR a3, vI a4, vI x284, vI x288, vU]) (pc := 1132) dL_law_1132 rfl ?_
  refine G_goto (tgt := 1338) (pc := 1134) dL_law_1134 ?_
  refine G_less (bc2 := (4 * F)) (bs2 := (24 * F)) (by omega) (by omega) ?_
  refine G_fg (lv2 := [vA K.2.2.2.2.2.1, vR a1, vR a2, vR a3, vI a4, vU, vU, vU]) ⟨Or.inr rfl, Or.inr rfl, Or.inr rfl, Or.inr rfl, Or.inr rfl, Or.inl rfl, Or.inl rfl, Or.inl rfl, trivial⟩ ?_
  exact gL_law_J1338 hst fu F s287 a1 a2 a3 a4 _ _ (fun w v4 => hr w v4) hk
def fL_law_J1137 (fu L : Nat) (xs : Nat → Int32) (s : z_M) (a1 : Int) (a2 : Int) (a3 : Int) (a4 : Int) (r : z_M → Int → z_O) (k : z_M → z_O) : z_O := z_let (z_w (a4 + 1)) (fun x289 => if 0 ≤ x289 ∧ x289 < (L : Int) then z_let (Int32.toInt (xs (Int.toNat x289))) (fun x290 => z_let (z_w (a4 + 2)) (fun x291 => if 0 ≤ x291 ∧ x291 < (L : Int) then z_let (Int32.toInt (xs (Int.toNat x291))) (fun x292 => z_bI (fL_thick fu s a1 x290 x292 a3) (fun x294 s293 => z_let (z_w (a4 + 1)) (fun x295 => if 0 ≤ x295 ∧ x295 < (L : Int) then z_let (Int32.toInt (xs (Int.toNat x295))) (fun x296 => z_let (z_w (a4 + 2)) (fun x297 => if 0 ≤ x297 ∧ x297 < (L : Int) then z_let (Int32.toInt (xs (Int.toNat x297))) (fun x298 => if z_ob a2 12 then z_bI (fX12_thick fu s293 a2 x296 x298) (fun x300 s299 => fL_law_J1338 fu L xs s299 a1 a2 a3 a4 (fun w v4 => r w v4) k) else none) else none)) else none))) else none)) else none)
theorem gL_law_J1137 {l : Launch} {K : z_K} (hst : l.stackTraces = false) (fu F : Nat) (s : z_M) (a1 : Int) (a2 : Int) (a3 : Int) (a4 : Int) (r : z_M → Int → z_O) (k : z_M → z_O) (hr : ∀ (s : z_M) (a4 : Int), G l K mL_law 13 295 (4 * F) (24 * F) 23 [vA K.2.2.2.2.2.1, vR a1, vR a2, vR a3, vI a4, vU, vU, vU] [] s (r s a4)) (hk : ∀ (s : z_M), G l K mL_law 13 295 0 0 1344 [vA K.2.2.2.2.2.1, vU, vU, vU, vU, vU, vU, vU] [] s (k s)) : G l K mL_law 13 295 (4 * F + 3) (24 * F + 18) 1137 [vA K.2.2.2.2.2.1, vR a1, vR a2, vR a3, vI a4, vU, vU, vU] [] s (fL_law_J1137 fu K.2.2.2.2.2.2.1 K.2.2.2.2.2.2.2 s a1 a2 a3 a4 r k) := by
  unfold fL_law_J1137
  refine G_aload_n (x := a1) (pc := 1137) dL_law_1137 rfl ?_
  refine G_sload_n (pc := 1138) dL_law_1138 rfl ?_
  refine G_iload (x := a4) (pc := 1139) dL_law_1139 rfl ?_
  refine G_iconst (pc := 1141) dL_law_1141 ?_
  refine G_iadd (pc := 1142) dL_law_1142 (fun x289 => ?_)
  refine G_sald (pc := 1143) dL_law_1143 (fun x290 => ?_)
  refine G_sload_n (pc := 1144) dL_law_1144 rfl ?_
  refine G_iload (x := a4) (pc := 1145) dL_law_1145 rfl ?_
  refine G_iconst (pc := 1147) dL_law_1147 ?_
  refine G_iadd (pc := 1148) dL_law_1148 (fun x291 => ?_)
  refine G_sald (pc := 1149) dL_law_1149 (fun x292 => ?_)
  refine G_aload_n (x := a3) (pc := 1150) dL_law_1150 rfl ?_
  refine G_callSI (as := [vR a1, vI x290, vI x292, vR a3]) (st := []) (bc2 := (4 * F)) (bs2 := (24 * F)) (pc := 1151) dL_law_1151 z_mL_thick z_sL_thick z_wL_202 (gL_thick hst fu s a1 x290 x292 a3) rfl rfl ⟨by decide, by decide, by omega, by omega, Nat.le_of_ble_eq_true rfl⟩ rfl (fun x294 s293 => ?_)
  refine G_istore (lv' := [vA K.2.2.2.2.2.1, vR a1, vR a2, vR a3, vI a4, vI x294, vU, vU]) (pc := 1154) dL_law_1154 rfl ?_
  refine G_aload_n (x := a2) (pc := 1156) dL_law_1156 rfl ?_
  refine G_sload_n (pc := 1157) dL_law_1157 rfl ?_
  refine G_iload (x := a4) (pc := 1158) dL_law_1158 rfl ?_
  refine G_iconst (pc := 1160) dL_law_1160 ?_
  refine G_iadd (pc := 1161) dL_law_1161 (fun x295 => ?_)
  refine G_sald (pc := 1162) dL_law_1162 (fun x296 => ?_)
  refine G_sload_n (pc := 1163) dL_law_1163 rfl ?_
  refine G_iload (x := a4) (pc := 1164) dL_law_1164 rfl ?_
  refine G_iconst (pc := 1166) dL_law_1166 ?_
  refine G_iadd (pc := 1167) dL_law_1167 (fun x297 => ?_)
  refine G_sald (pc := 1168) dL_law_1168 (fun x298 => ?_)
  refine G_callVI (as := [vI x296, vI x298]) (st := []) (c := 12) (bc2 := (4 * F)) (bs2 := (24 * F)) (pc := 1169) dL_law_1169 z_mX12_thick z_vX12_thick z_wL_204 (gX12_thick hst fu s293 a2 x296 x298) rfl rfl (by decide) rfl rfl ⟨by decide, by decide, by omega, by omega, Nat.le_of_ble_eq_true rfl⟩ rfl (fun x300 s299 => ?_)
  refine G_istore (lv' := [vA K.2.2.2.2.2.1, vR a1, vR a2, vR a3, vI a4, vI x294, vI x300, vU]) (pc := 1172) dL_law_1172 rfl ?_
  refine G_goto (tgt := 1338) (pc := 1174) dL_law_1174 ?_
  refine G_less (bc2 := (4 * F)) (bs2 := (24 * F)) (by omega) (by omega) ?_
  refine G_fg (lv2 := [vA K.2.2.2.2.2.1, vR a1, vR a2, vR a3, vI a4, vU, vU, vU]) ⟨Or.inr rfl, Or.inr rfl, Or.inr rfl, Or.inr rfl, Or.inr rfl, Or.inl rfl, Or.inl rfl, Or.inl rfl, trivial⟩ ?_
  exact gL_law_J1338 hst fu F s299 a1 a2 a3 a4 _ _ (fun w v4 => hr w v4) hk
def fL_law_J1177 (fu L : Nat) (xs : Nat → Int32) (s : z_M) (a1 : Int) (a2 : Int) (a3 : Int) (a4 : Int) (r : z_M → Int → z_O) (k : z_M → z_O) : z_O := z_let (z_w (a4 + 1)) (fun x301 => if 0 ≤ x301 ∧ x301 < (L : Int) then z_let (Int32.toInt (xs (Int.toNat x301))) (fun x302 => z_bI (fL_pages fu s a1 x302 a3) (fun x304 s303 => z_let (z_w (a4 + 1)) (fun x305 => if 0 ≤ x305 ∧ x305 < (L : Int) then z_let (Int32.toInt (xs (Int.toNat x305))) (fun x306 => if z_ob a2 12 then z_bI (fX12_pages fu s303 a2 x306) (fun x308 s307 => fL_law_J1338 fu L xs s307 a1 a2 a3 a4 (fun w v4 => r w v4) k) else none) else none))) else none)
theorem gL_law_J1177 {l : Launch} {K : z_K} (hst : l.stackTraces = false) (fu F : Nat) (s : z_M) (a1 : Int) (a2 : Int) (a3 : Int) (a4 : Int) (r : z_M → Int → z_O) (k : z_M → z_O) (hr : ∀ (s : z_M) (a4 : Int), G l K mL_law 13 295 (4 * F) (24 * F) 23 [vA K.2.2.2.2.2.1, vR a1, vR a2, vR a3, vI a4, vU, vU, vU] [] s (r s a4)) (hk : ∀ (s : z_M), G l K mL_law 13 295 0 0 1344 [vA K.2.2.2.2.2.1, vU, vU, vU, vU, vU, vU, vU] [] s (k s)) : G l K mL_law 13 295 (4 * F + 1) (24 * F + 6) 1177 [vA K.2.2.2.2.2.1, vR a1, vR a2, vR a3, vI a4, vU, vU, vU] [] s (fL_law_J1177 fu K.2.2.2.2.2.2.1 K.2.2.2.2.2.2.2 s a1 a2 a3 a4 r k) := by
  unfold fL_law_J1177
  refine G_aload_n (x := a1) (pc := 1177) dL_law_1177 rfl ?_
  refine G_sload_n (pc := 1178) dL_law_1178 rfl ?_
  refine G_iload (x := a4) (pc := 1179) dL_law_1179 rfl ?_
  refine G_iconst (pc := 1181) dL_law_1181 ?_
  refine G_iadd (pc := 1182) dL_law_1182 (fun x301 => ?_)
  refine G_sald (pc := 1183) dL_law_1183 (fun x302 => ?_)
  refine G_aload_n (x := a3) (pc := 1184) dL_law_1184 rfl ?_
  refine G_callSI (as := [vR a1, vI x302, vR a3]) (st := []) (bc2 := (4 * F)) (bs2 := (24 * F)) (pc := 1185) dL_law_1185 z_mL_pages z_sL_pages z_wL_205 (gL_pages hst fu s a1 x302 a3) rfl rfl ⟨by decide, by decide, by omega, by omega, Nat.le_of_ble_eq_true rfl⟩ rfl (fun x304 s303 => ?_)
  refine G_istore (lv' := [vA K.2.2.2.2.2.1, vR a1, vR a2, vR a3, vI a4, vI x304, vU, vU]) (pc := 1188) dL_law_1188 rfl ?_
  refine G_aload_n (x := a2) (pc := 1190) dL_law_1190 rfl ?_
  refine G_sload_n (pc := 1191) dL_law_1191 rfl ?_
  refine G_iload (x := a4) (pc := 1192) dL_law_1192 rfl ?_
  refine G_iconst (pc := 1194) dL_law_1194 ?_
  refine G_iadd (pc := 1195) dL_law_1195 (fun x305 => ?_)
  refine G_sald (pc := 1196) dL_law_1196 (fun x306 => ?_)
  refine G_callVI (as := [vI x306]) (st := []) (c := 12) (bc2 := (4 * F)) (bs2 := (24 * F)) (pc := 1197) dL_law_1197 z_mX12_pages z_vX12_pages z_wL_207 (gX12_pages hst fu s303 a2 x306) rfl rfl (by decide) rfl rfl ⟨by decide, by decide, by omega, by omega, Nat.le_of_ble_eq_true rfl⟩ rfl (fun x308 s307 => ?_)
  refine G_istore (lv' := [vA K.2.2.2.2.2.1, vR a1, vR a2, vR a3, vI a4, vI x304, vI x308, vU]) (pc := 1200) dL_law_1200 rfl ?_
  refine G_goto (tgt := 1338) (pc := 1202) dL_law_1202 ?_
  refine G_less (bc2 := (4 * F)) (bs2 := (24 * F)) (by omega) (by omega) ?_
  refine G_fg (lv2 := [vA K.2.2.2.2.2.1, vR a1, vR a2, vR a3, vI a4, vU, vU, vU]) ⟨Or.inr rfl, Or.inr rfl, Or.inr rfl, Or.inr rfl, Or.inr rfl, Or.inl rfl, Or.inl rfl, Or.inl rfl, trivial⟩ ?_
  exact gL_law_J1338 hst fu F s307 a1 a2 a3 a4 _ _ (fun w v4 => hr w v4) hk
def fL_law_J1205 (fu L : Nat) (xs : Nat → Int32) (s : z_M) (a1 : Int) (a2 : Int) (a3 : Int) (a4 : Int) (r : z_M → Int → z_O) (k : z_M → z_O) : z_O := z_let (z_w (a4 + 1)) (fun x309 => if 0 ≤ x309 ∧ x309 < (L : Int) then z_let (Int32.toInt (xs (Int.toNat x309))) (fun x310 => z_let (z_w (a4 + 2)) (fun x311 => if 0 ≤ x311 ∧ x311 < (L : Int) then z_let (Int32.toInt (xs (Int.toNat x311))) (fun x312 => z_let (z_w (a4 + 3)) (fun x313 => if 0 ≤ x313 ∧ x313 < (L : Int) then z_let (Int32.toInt (xs (Int.toNat x313))) (fun x314 => z_bI (fL_page fu s a1 x310 x312 x314 a3) (fun x316 s315 => z_let (z_w (a4 + 1)) (fun x317 => if 0 ≤ x317 ∧ x317 < (L : Int) then z_let (Int32.toInt (xs (Int.toNat x317))) (fun x318 => z_let (z_w (a4 + 2)) (fun x319 => if 0 ≤ x319 ∧ x319 < (L : Int) then z_let (Int32.toInt (xs (Int.toNat x319))) (fun x320 => z_let (z_w (a4 + 3)) (fun x321 => if 0 ≤ x321 ∧ x321 < (L : Int) then z_let (Int32.toInt (xs (Int.toNat x321))) (fun x322 => if z_ob a2 12 then z_bI (fX12_page fu s315 a2 x318 x320 x322) (fun x324 s323 => fL_law_J1338 fu L xs s323 a1 a2 a3 a4 (fun w v4 => r w v4) k) else none) else none)) else none)) else none))) else none)) else none)) else none)
theorem gL_law_J1205 {l : Launch} {K : z_K} (hst : l.stackTraces = false) (fu F : Nat) (s : z_M) (a1 : Int) (a2 : Int) (a3 : Int) (a4 : Int) (r : z_M → Int → z_O) (k : z_M → z_O) (hr : ∀ (s : z_M) (a4 : Int), G l K mL_law 13 295 (4 * F) (24 * F) 23 [vA K.2.2.2.2.2.1, vR a1, vR a2, vR a3, vI a4, vU, vU, vU] [] s (r s a4)) (hk : ∀ (s : z_M), G l K mL_law 13 295 0 0 1344 [vA K.2.2.2.2.2.1, vU, vU, vU, vU, vU, vU, vU] [] s (k s)) : G l K mL_law 13 295 (4 * F + 2) (24 * F + 12) 1205 [vA K.2.2.2.2.2.1, vR a1, vR a2, vR a3, vI a4, vU, vU, vU] [] s (fL_law_J1205 fu K.2.2.2.2.2.2.1 K.2.2.2.2.2.2.2 s a1 a2 a3 a4 r k) := by
  unfold fL_law_J1205
  refine G_aload_n (x := a1) (pc := 1205) dL_law_1205 rfl ?_
  refine G_sload_n (pc := 1206) dL_law_1206 rfl ?_
  refine G_iload (x := a4) (pc := 1207) dL_law_1207 rfl ?_
  refine G_iconst (pc := 1209) dL_law_1209 ?_
  refine G_iadd (pc := 1210) dL_law_1210 (fun x309 => ?_)
  refine G_sald (pc := 1211) dL_law_1211 (fun x310 => ?_)
  refine G_sload_n (pc := 1212) dL_law_1212 rfl ?_
  refine G_iload (x := a4) (pc := 1213) dL_law_1213 rfl ?_
  refine G_iconst (pc := 1215) dL_law_1215 ?_
  refine G_iadd (pc := 1216) dL_law_1216 (fun x311 => ?_)
  refine G_sald (pc := 1217) dL_law_1217 (fun x312 => ?_)
  refine G_sload_n (pc := 1218) dL_law_1218 rfl ?_
  refine G_iload (x := a4) (pc := 1219) dL_law_1219 rfl ?_
  refine G_iconst (pc := 1221) dL_law_1221 ?_
  refine G_iadd (pc := 1222) dL_law_1222 (fun x313 => ?_)
  refine G_sald (pc := 1223) dL_law_1223 (fun x314 => ?_)
  refine G_aload_n (x := a3) (pc := 1224) dL_law_1224 rfl ?_
  refine G_callSI (as := [vR a1, vI x310, vI x312, vI x314, vR a3]) (st := []) (bc2 := (4 * F)) (bs2 := (24 * F)) (pc := 1225) dL_law_1225 z_mL_page z_sL_page z_wL_208 (gL_page hst fu s a1 x310 x312 x314 a3) rfl rfl ⟨by decide, by decide, by omega, by omega, Nat.le_of_ble_eq_true rfl⟩ rfl (fun x316 s315 => ?_)
  refine G_istore (lv' := [vA K.2.2.2.2.2.1, vR a1, vR a2, vR a3, vI a4, vI x316, vU, vU]) (pc := 1228) dL_law_1228 rfl ?_
  refine G_aload_n (x := a2) (pc := 1230) dL_law_1230 rfl ?_
  refine G_sload_n (pc := 1231) dL_law_1231 rfl ?_
  refine G_iload (x := a4) (pc := 1232) dL_law_1232 rfl ?_
  refine G_iconst (pc := 1234) dL_law_1234 ?_
  refine G_iadd (pc := 1235) dL_law_1235 (fun x317 => ?_)
  refine G_sald (pc := 1236) dL_law_1236 (fun x318 => ?_)
  refine G_sload_n (pc := 1237) dL_law_1237 rfl ?_
  refine G_iload (x := a4) (pc := 1238) dL_law_1238 rfl ?_
  refine G_iconst (pc := 1240) dL_law_1240 ?_
  refine G_iadd (pc := 1241) dL_law_1241 (fun x319 => ?_)
  refine G_sald (pc := 1242) dL_law_1242 (fun x320 => ?_)
  refine G_sload_n (pc := 1243) dL_law_1243 rfl ?_
  refine G_iload (x := a4) (pc := 1244) dL_law_1244 rfl ?_
  refine G_iconst (pc := 1246) dL_law_1246 ?_
  refine G_iadd (pc := 1247) dL_law_1247 (fun x321 => ?_)
  refine G_sald (pc := 1248) dL_law_1248 (fun x322 => ?_)
  refine G_callVI (as := [vI x318, vI x320, vI x322]) (st := []) (c := 12) (bc2 := (4 * F)) (bs2 := (24 * F)) (pc := 1249) dL_law_1249 z_mX12_page z_vX12_page z_wL_210 (gX12_page hst fu s315 a2 x318 x320 x322) rfl rfl (by decide) rfl rfl ⟨by decide, by decide, by omega, by omega, Nat.le_of_ble_eq_true rfl⟩ rfl (fun x324 s323 => ?_)
  refine G_istore (lv' := [vA K.2.2.2.2.2.1, vR a1, vR a2, vR a3, vI a4, vI x316, vI x324, vU]) (pc := 1252) dL_law_1252 rfl ?_
  refine G_goto (tgt := 1338) (pc := 1254) dL_law_1254 ?_
  refine G_less (bc2 := (4 * F)) (bs2 := (24 * F)) (by omega) (by omega) ?_
  refine G_fg (lv2 := [vA K.2.2.2.2.2.1, vR a1, vR a2, vR a3, vI a4, vU, vU, vU]) ⟨Or.inr rfl, Or.inr rfl, Or.inr rfl, Or.inr rfl, Or.inr rfl, Or.inl rfl, Or.inl rfl, Or.inl rfl, trivial⟩ ?_
  exact gL_law_J1338 hst fu F s323 a1 a2 a3 a4 _ _ (fun w v4 => hr w v4) hk
def fL_law_J1310 (fu L : Nat) (xs : Nat → Int32) (s : z_M) (a1 : Int) (a2 : Int) (a3 : Int) (a4 : Int) (r : z_M → Int → z_O) (k : z_M → z_O) : z_O := fL_law_J1338 fu L xs s a1 a2 a3 a4 (fun w v4 => r w v4) k
theorem gL_law_J1310 {l : Launch} {K : z_K} (hst : l.stackTraces = false) (fu F : Nat) (s : z_M) (a1 : Int) (a2 : Int) (a3 : Int) (a4 : Int) (r : z_M → Int → z_O) (k : z_M → z_O) (hr : ∀ (s : z_M) (a4 : Int), G l K mL_law 13 295 (4 * F) (24 * F) 23 [vA K.2.2.2.2.2.1, vR a1, vR a2, vR a3, vI a4, vU, vU, vU] [] s (r s a4)) (hk : ∀ (s : z_M), G l K mL_law 13 295 0 0 1344 [vA K.2.2.2.2.2.1, vU, vU, vU, vU, vU, vU, vU] [] s (k s)) : G l K mL_law 13 295 (4 * F) (24 * F) 1310 [vA K.2.2.2.2.2.1, vR a1, vR a2, vR a3, vI a4, vU, vU, vU] [] s (fL_law_J1310 fu K.2.2.2.2.2.2.1 K.2.2.2.2.2.2.2 s a1 a2 a3 a4 r k) := by
  unfold fL_law_J1310
  refine G_goto (tgt := 1338) (pc := 1310) dL_law_1310 ?_
  refine G_less (bc2 := (4 * F)) (bs2 := (24 * F)) (by omega) (by omega) ?_
  exact gL_law_J1338 hst fu F s a1 a2 a3 a4 _ _ (fun w v4 => hr w v4) hk
def fL_law_J1257 (fu L : Nat) (xs : Nat → Int32) (s : z_M) (a1 : Int) (a2 : Int) (a3 : Int) (a4 : Int) (r : z_M → Int → z_O) (k : z_M → z_O) : z_O := z_let (z_w (a4 + 1)) (fun x325 => if 0 ≤ x325 ∧ x325 < (L : Int) then z_let (Int32.toInt (xs (Int.toNat x325))) (fun x326 => z_bI (fL_narrow fu s a1 x326 a3) (fun x328 s327 => z_let (z_w (a4 + 1)) (fun x329 => if 0 ≤ x329 ∧ x329 < (L : Int) then z_let (Int32.toInt (xs (Int.toNat x329))) (fun x330 => if z_ob a2 12 then z_bI (fX12_narrow fu s327 a2 x330) (fun x332 s331 => if z_ob a2 12 then z_bI (fX12_thrown fu s331 a2) (fun x334 s333 => if (x334 : Int) = x328 then (if (x328 : Int) ≠ 0 then (fL_law_J1310 fu L xs s333 a1 a2 a3 a4 (fun w v4 => r w v4) k) else (if z_ix a3 101 0 then z_let (s333 a3 0) (fun x335 => z_let (z_cmp x335 x332) (fun x336 => if (x336 : Int) = 0 then (fL_law_J1310 fu L xs s333 a1 a2 a3 a4 (fun w v4 => r w v4) k) else (if z_bl 0 then some (vI 0, s333) else none))) else none)) else (if z_bl 0 then some (vI 0, s333) else none)) else none) else none) else none))) else none)
theorem gL_law_J1257 {l : Launch} {K : z_K} (hst : l.stackTraces = false) (fu F : Nat) (s : z_M) (a1 : Int) (a2 : Int) (a3 : Int) (a4 : Int) (r : z_M → Int → z_O) (k : z_M → z_O) (hr : ∀ (s : z_M) (a4 : Int), G l K mL_law 13 295 (4 * F) (24 * F) 23 [vA K.2.2.2.2.2.1, vR a1, vR a2, vR a3, vI a4, vU, vU, vU] [] s (r s a4)) (hk : ∀ (s : z_M), G l K mL_law 13 295 0 0 1344 [vA K.2.2.2.2.2.1, vU, vU, vU, vU, vU, vU, vU] [] s (k s)) : G l K mL_law 13 295 (4 * F + 1) (24 * F + 6) 1257 [vA K.2.2.2.2.2.1, vR a1, vR a2, vR a3, vI a4, vU, vU, vU] [] s (fL_law_J1257 fu K.2.2.2.2.2.2.1 K.2.2.2.2.2.2.2 s a1 a2 a3 a4 r k) := by
  unfold fL_law_J1257
  refine G_aload_n (x := a1) (pc := 1257) dL_law_1257 rfl ?_
  refine G_sload_n (pc := 1258) dL_law_1258 rfl ?_
  refine G_iload (x := a4) (pc := 1259) dL_law_1259 rfl ?_
  refine G_iconst (pc := 1261) dL_law_1261 ?_
  refine G_iadd (pc := 1262) dL_law_1262 (fun x325 => ?_)
  refine G_sald (pc := 1263) dL_law_1263 (fun x326 => ?_)
  refine G_aload_n (x := a3) (pc := 1264) dL_law_1264 rfl ?_
  refine G_callSI (as := [vR a1, vI x326, vR a3]) (st := []) (bc2 := (4 * F)) (bs2 := (24 * F)) (pc := 1265) dL_law_1265 z_mL_narrow z_sL_narrow z_wL_211 (gL_narrow hst fu s a1 x326 a3) rfl rfl ⟨by decide, by decide, by omega, by omega, Nat.le_of_ble_eq_true rfl⟩ rfl (fun x328 s327 => ?_)
  refine G_istore (lv' := [vA K.2.2.2.2.2.1, vR a1, vR a2, vR a3, vI a4, vI x328, vU, vU]) (pc := 1268) dL_law_1268 rfl ?_
  refine G_aload_n (x := a2) (pc := 1270) dL_law_1270 rfl ?_
  refine G_sload_n (pc := 1271) dL_law_1271 rfl ?_
  refine G_iload (x := a4) (pc := 1272) dL_law_1272 rfl ?_
  refine G_iconst (pc := 1274) dL_law_1274 ?_
  refine G_iadd (pc := 1275) dL_law_1275 (fun x329 => ?_)
  refine G_sald (pc := 1276) dL_law_1276 (fun x330 => ?_)
  refine G_callVI (as := [vI x330]) (st := []) (c := 12) (bc2 := (4 * F)) (bs2 := (24 * F)) (pc := 1277) dL_law_1277 z_mX12_narrow z_vX12_narrow z_wL_213 (gX12_narrow hst fu s327 a2 x330) rfl rfl (by decide) rfl rfl ⟨by decide, by decide, by omega, by omega, Nat.le_of_ble_eq_true rfl⟩ rfl (fun x332 s331 => ?_)
  refine G_istore (lv' := [vA K.2.2.2.2.2.1, vR a1, vR a2, vR a3, vI a4, vI x328, vI x332, vU]) (pc := 1280) dL_law_1280 rfl ?_
  refine G_aload_n (x := a2) (pc := 1282) dL_law_1282 rfl ?_
  refine G_callVI (as := []) (st := []) (c := 12) (bc2 := (4 * F)) (bs2 := (24 * F)) (pc := 1283) dL_law_1283 z_mX12_thrown z_vX12_thrown z_wL_214 (gX12_thrown hst fu s331 a2) rfl rfl (by decide) rfl rfl ⟨by decide, by decide, by omega, by omega, Nat.le_of_ble_eq_true rfl⟩ rfl (fun x334 s333 => ?_)
  refine G_iload (x := x328) (pc := 1286) dL_law_1286 rfl ?_
  refine G_icmp_eq (tgt := 1293) (pc := 1288) dL_law_1288 ?_ ?_
  · refine G_iload (x := x328) (pc := 1293) dL_law_1293 rfl ?_
    refine G_if_ne (tgt := 1310) (pc := 1295) dL_law_1295 ?_ ?_
    · refine G_less (bc2 := (4 * F)) (bs2 := (24 * F)) (by omega) (by omega) ?_
      refine G_fg (lv2 := [vA K.2.2.2.2.2.1, vR a1, vR a2, vR a3, vI a4, vU, vU, vU]) ⟨Or.inr rfl, Or.inr rfl, Or.inr rfl, Or.inr rfl, Or.inr rfl, Or.inl rfl, Or.inl rfl, Or.inl rfl, trivial⟩ ?_
      exact gL_law_J1310 hst fu F s333 a1 a2 a3 a4 _ _ (fun w v4 => hr w v4) hk
    · refine G_aload_n (x := a3) (pc := 1298) dL_law_1298 rfl ?_
      refine G_iconst (pc := 1299) dL_law_1299 ?_
      refine G_lald (pc := 1300) dL_law_1300 (fun x335 => ?_)
      refine G_iload (x := x332) (pc := 1301) dL_law_1301 rfl ?_
      refine G_i2l (pc := 1303) dL_law_1303 ?_
      refine G_lcmp (pc := 1304) dL_law_1304 (fun x336 => ?_)
      refine G_if_eq (tgt := 1310) (pc := 1305) dL_law_1305 ?_ ?_
      · refine G_less (bc2 := (4 * F)) (bs2 := (24 * F)) (by omega) (by omega) ?_
        refine G_fg (lv2 := [vA K.2.2.2.2.2.1, vR a1, vR a2, vR a3, vI a4, vU, vU, vU]) ⟨Or.inr rfl, Or.inr rfl, Or.inr rfl, Or.inr rfl, Or.inr rfl, Or.inl rfl, Or.inl rfl, Or.inl rfl, trivial⟩ ?_
        exact gL_law_J1310 hst fu F s333 a1 a2 a3 a4 _ _ (fun w v4 => hr w v4) hk
      · refine G_iconst (pc := 1308) dL_law_1308 ?_
        exact G_zret (pc := 1309) dL_law_1309
  · refine G_iconst (pc := 1291) dL_law_1291 ?_
    exact G_zret (pc := 1292) dL_law_1292
def fL_law_J1313 (fu L : Nat) (xs : Nat → Int32) (s : z_M) (a1 : Int) (a2 : Int) (a3 : Int) (a4 : Int) (r : z_M → Int → z_O) (k : z_M → z_O) : z_O := z_let (z_w (a4 + 1)) (fun x337 => if 0 ≤ x337 ∧ x337 < (L : Int) then z_let (Int32.toInt (xs (Int.toNat x337))) (fun x338 => if z_ob a1 11 then z_bI (fX11_status fu s a1 x338) (fun x340 s339 => z_let (z_w (a4 + 1)) (fun x341 => if 0 ≤ x341 ∧ x341 < (L : Int) then z_let (Int32.toInt (xs (Int.toNat x341))) (fun x342 => if z_ob a2 12 then z_bI (fX12_status fu s339 a2 x342) (fun x344 s343 => fL_law_J1338 fu L xs s343 a1 a2 a3 a4 (fun w v4 => r w v4) k) else none) else none)) else none) else none)
theorem gL_law_J1313 {l : Launch} {K : z_K} (hst : l.stackTraces = false) (fu F : Nat) (s : z_M) (a1 : Int) (a2 : Int) (a3 : Int) (a4 : Int) (r : z_M → Int → z_O) (k : z_M → z_O) (hr : ∀ (s : z_M) (a4 : Int), G l K mL_law 13 295 (4 * F) (24 * F) 23 [vA K.2.2.2.2.2.1, vR a1, vR a2, vR a3, vI a4, vU, vU, vU] [] s (r s a4)) (hk : ∀ (s : z_M), G l K mL_law 13 295 0 0 1344 [vA K.2.2.2.2.2.1, vU, vU, vU, vU, vU, vU, vU] [] s (k s)) : G l K mL_law 13 295 (4 * F) (24 * F) 1313 [vA K.2.2.2.2.2.1, vR a1, vR a2, vR a3, vI a4, vU, vU, vU] [] s (fL_law_J1313 fu K.2.2.2.2.2.2.1 K.2.2.2.2.2.2.2 s a1 a2 a3 a4 r k) := by
  unfold fL_law_J1313
  refine G_aload_n (x := a1) (pc := 1313) dL_law_1313 rfl ?_
  refine G_sload_n (pc := 1314) dL_law_1314 rfl ?_
  refine G_iload (x := a4) (pc := 1315) dL_law_1315 rfl ?_
  refine G_iconst (pc := 1317) dL_law_1317 ?_
  refine G_iadd (pc := 1318) dL_law_1318 (fun x337 => ?_)
  refine G_sald (pc := 1319) dL_law_1319 (fun x338 => ?_)
  refine G_callVI (as := [vI x338]) (st := []) (c := 11) (bc2 := (4 * F)) (bs2 := (24 * F)) (pc := 1320) dL_law_1320 z_mX11_status z_vX11_status z_wL_217 (gX11_status hst fu s a1 x338) rfl rfl (by decide) rfl rfl ⟨by decide, by decide, by omega, by omega, Nat.le_of_ble_eq_true rfl⟩ rfl (fun x340 s339 => ?_)
  refine G_popI (pc := 1323) dL_law_1323 ?_
  refine G_aload_n (x := a2) (pc := 1324) dL_law_1324 rfl ?_
  refine G_sload_n (pc := 1325) dL_law_1325 rfl ?_
  refine G_iload (x := a4) (pc := 1326) dL_law_1326 rfl ?_
  refine G_iconst (pc := 1328) dL_law_1328 ?_
  refine G_iadd (pc := 1329) dL_law_1329 (fun x341 => ?_)
  refine G_sald (pc := 1330) dL_law_1330 (fun x342 => ?_)
  refine G_callVI (as := [vI x342]) (st := []) (c := 12) (bc2 := (4 * F)) (bs2 := (24 * F)) (pc := 1331) dL_law_1331 z_mX12_status z_vX12_status z_wL_220 (gX12_status hst fu s339 a2 x342) rfl rfl (by decide) rfl rfl ⟨by decide, by decide, by omega, by omega, Nat.le_of_ble_eq_true rfl⟩ rfl (fun x344 s343 => ?_)
  refine G_popI (pc := 1334) dL_law_1334 ?_
  refine G_goto (tgt := 1338) (pc := 1335) dL_law_1335 ?_
  refine G_less (bc2 := (4 * F)) (bs2 := (24 * F)) (by omega) (by omega) ?_
  exact gL_law_J1338 hst fu F s343 a1 a2 a3 a4 _ _ (fun w v4 => hr w v4) hk
def fL_law_L23 (fu L : Nat) (xs : Nat → Int32) (a1 : Int) (a2 : Int) (a3 : Int) : Nat → z_M → Int → (z_M → z_O) → z_O
  | 0, _, _, _ => none
  | F + 1, s, a4, k => z_let (z_w ((L : Int) - 6)) (fun x1 => if (x1 : Int) < a4 then (k s) else (if 0 ≤ a4 ∧ a4 < (L : Int) then z_let (Int32.toInt (xs (Int.toNat a4))) (fun x2 => z_let (z_and x2 63) (fun x3 => if x3 = (0 : Int) then (fL_law_J188 fu L xs s a1 a2 a3 a4 (fun w v4 => fL_law_L23 fu L xs a1 a2 a3 F w v4 k) k) else (if x3 = (1 : Int) then (fL_law_J261 fu L xs s a1 a2 a3 a4 (fun w v4 => fL_law_L23 fu L xs a1 a2 a3 F w v4 k) k) else (if x3 = (2 : Int) then (fL_law_J289 fu L xs s a1 a2 a3 a4 (fun w v4 => fL_law_L23 fu L xs a1 a2 a3 F w v4 k) k) else (if x3 = (3 : Int) then (fL_law_J317 fu L xs s a1 a2 a3 a4 (fun w v4 => fL_law_L23 fu L xs a1 a2 a3 F w v4 k) k) else (if x3 = (4 : Int) then (fL_law_J330 fu L xs s a1 a2 a3 a4 (fun w v4 => fL_law_L23 fu L xs a1 a2 a3 F w v4 k) k) else (if x3 = (5 : Int) then (fL_law_J370 fu L xs s a1 a2 a3 a4 (fun w v4 => fL_law_L23 fu L xs a1 a2 a3 F w v4 k) k) else (if x3 = (6 : Int) then (fL_law_J410 fu L xs s a1 a2 a3 a4 (fun w v4 => fL_law_L23 fu L xs a1 a2 a3 F w v4 k) k) else (if x3 = (7 : Int) then (fL_law_J423 fu L xs s a1 a2 a3 a4 (fun w v4 => fL_law_L23 fu L xs a1 a2 a3 F w v4 k) k) else (if x3 = (8 : Int) then (fL_law_J451 fu L xs s a1 a2 a3 a4 (fun w v4 => fL_law_L23 fu L xs a1 a2 a3 F w v4 k) k) else (if x3 = (9 : Int) then (fL_law_J491 fu L xs s a1 a2 a3 a4 (fun w v4 => fL_law_L23 fu L xs a1 a2 a3 F w v4 k) k) else (if x3 = (10 : Int) then (fL_law_J531 fu L xs s a1 a2 a3 a4 (fun w v4 => fL_law_L23 fu L xs a1 a2 a3 F w v4 k) k) else (if x3 = (11 : Int) then (fL_law_J571 fu L xs s a1 a2 a3 a4 (fun w v4 => fL_law_L23 fu L xs a1 a2 a3 F w v4 k) k) else (if x3 = (12 : Int) then (fL_law_J611 fu L xs s a1 a2 a3 a4 (fun w v4 => fL_law_L23 fu L xs a1 a2 a3 F w v4 k) k) else (if x3 = (13 : Int) then (fL_law_J675 fu L xs s a1 a2 a3 a4 (fun w v4 => fL_law_L23 fu L xs a1 a2 a3 F w v4 k) k) else (if x3 = (14 : Int) then (fL_law_J715 fu L xs s a1 a2 a3 a4 (fun w v4 => fL_law_L23 fu L xs a1 a2 a3 F w v4 k) k) else (if x3 = (15 : Int) then (fL_law_J755 fu L xs s a1 a2 a3 a4 (fun w v4 => fL_law_L23 fu L xs a1 a2 a3 F w v4 k) k) else (if x3 = (16 : Int) then (fL_law_J783 fu L xs s a1 a2 a3 a4 (fun w v4 => fL_law_L23 fu L xs a1 a2 a3 F w v4 k) k) else (if x3 = (17 : Int) then (fL_law_J823 fu L xs s a1 a2 a3 a4 (fun w v4 => fL_law_L23 fu L xs a1 a2 a3 F w v4 k) k) else (if x3 = (18 : Int) then (fL_law_J863 fu L xs s a1 a2 a3 a4 (fun w v4 => fL_law_L23 fu L xs a1 a2 a3 F w v4 k) k) else (if x3 = (19 : Int) then (fL_law_J891 fu L xs s a1 a2 a3 a4 (fun w v4 => fL_law_L23 fu L xs a1 a2 a3 F w v4 k) k) else (if x3 = (20 : Int) then (fL_law_J904 fu L xs s a1 a2 a3 a4 (fun w v4 => fL_law_L23 fu L xs a1 a2 a3 F w v4 k) k) else (if x3 = (21 : Int) then (fL_law_J932 fu L xs s a1 a2 a3 a4 (fun w v4 => fL_law_L23 fu L xs a1 a2 a3 F w v4 k) k) else (if x3 = (22 : Int) then (fL_law_J945 fu L xs s a1 a2 a3 a4 (fun w v4 => fL_law_L23 fu L xs a1 a2 a3 F w v4 k) k) else (if x3 = (23 : Int) then (fL_law_J973 fu L xs s a1 a2 a3 a4 (fun w v4 => fL_law_L23 fu L xs a1 a2 a3 F w v4 k) k) else (if x3 = (24 : Int) then (fL_law_J1001 fu L xs s a1 a2 a3 a4 (fun w v4 => fL_law_L23 fu L xs a1 a2 a3 F w v4 k) k) else (if x3 = (25 : Int) then (fL_law_J1029 fu L xs s a1 a2 a3 a4 (fun w v4 => fL_law_L23 fu L xs a1 a2 a3 F w v4 k) k) else (if x3 = (26 : Int) then (fL_law_J1081 fu L xs s a1 a2 a3 a4 (fun w v4 => fL_law_L23 fu L xs a1 a2 a3 F w v4 k) k) else (if x3 = (27 : Int) then (fL_law_J1109 fu L xs s a1 a2 a3 a4 (fun w v4 => fL_law_L23 fu L xs a1 a2 a3 F w v4 k) k) else (if x3 = (28 : Int) then (fL_law_J1137 fu L xs s a1 a2 a3 a4 (fun w v4 => fL_law_L23 fu L xs a1 a2 a3 F w v4 k) k) else (if x3 = (29 : Int) then (fL_law_J1177 fu L xs s a1 a2 a3 a4 (fun w v4 => fL_law_L23 fu L xs a1 a2 a3 F w v4 k) k) else (if x3 = (30 : Int) then (fL_law_J1205 fu L xs s a1 a2 a3 a4 (fun w v4 => fL_law_L23 fu L xs a1 a2 a3 F w v4 k) k) else (if x3 = (31 : Int) then (fL_law_J1257 fu L xs s a1 a2 a3 a4 (fun w v4 => fL_law_L23 fu L xs a1 a2 a3 F w v4 k) k) else (if x3 = (32 : Int) then (fL_law_J1313 fu L xs s a1 a2 a3 a4 (fun w v4 => fL_law_L23 fu L xs a1 a2 a3 F w v4 k) k) else (fL_law_J1338 fu L xs s a1 a2 a3 a4 (fun w v4 => fL_law_L23 fu L xs a1 a2 a3 F w v4 k) k))))))))))))))))))))))))))))))))))) else none))
theorem gL_law_L23 {l : Launch} {K : z_K} (hst : l.stackTraces = false) (fu : Nat) (a1 : Int) (a2 : Int) (a3 : Int) (k : z_M → z_O) (hk : ∀ (s : z_M), G l K mL_law 13 295 0 0 1344 [vA K.2.2.2.2.2.1, vU, vU, vU, vU, vU, vU, vU] [] s (k s)) : ∀ (F : Nat) (s : z_M) (a4 : Int), G l K mL_law 13 295 (4 * F) (24 * F) 23 [vA K.2.2.2.2.2.1, vR a1, vR a2, vR a3, vI a4, vU, vU, vU] [] s (fL_law_L23 fu K.2.2.2.2.2.2.1 K.2.2.2.2.2.2.2 a1 a2 a3 F s a4 k) := by
  intro F
  induction F with
  | zero => exact fun s a4 h => absurd rfl h
  | succ F ih =>
    intro s a4
    rw [fL_law_L23]
    refine G_iload (x := a4) (pc := 23) dL_law_23 rfl ?_
    refine G_sload_n (pc := 25) dL_law_25 rfl ?_
    refine G_slen (pc := 26) dL_law_26 ?_
    refine G_bipush (pc := 27) dL_law_27 ?_
    refine G_isub (pc := 29) dL_law_29 (fun x1 => ?_)
    refine G_icmp_gt (tgt := 1344) (pc := 30) dL_law_30 ?_ ?_
    · refine G_less (bc2 := 0) (bs2 := 0) (by omega) (by omega) ?_
      refine G_fg (lv2 := [vA K.2.2.2.2.2.1, vU, vU, vU, vU, vU, vU, vU]) ⟨Or.inr rfl, Or.inl rfl, Or.inl rfl, Or.inl rfl, Or.inl rfl, Or.inl rfl, Or.inl rfl, Or.inl rfl, trivial⟩ ?_
      exact hk s
    · refine G_sload_n (pc := 33) dL_law_33 rfl ?_
      refine G_iload (x := a4) (pc := 34) dL_law_34 rfl ?_
      refine G_sald (pc := 36) dL_law_36 (fun x2 => ?_)
      refine G_bipush (pc := 37) dL_law_37 ?_
      refine G_iand (pc := 39) dL_law_39 (fun x3 => ?_)
      refine G_ite (fun h0 => ?_) (fun h0 => ?_)
      · refine G_tableIn (off := 148) (tgt := 188) (pc := 40) dL_law_40 (by omega) (by rw [h0]; rfl) (by decide) ?_
        refine G_less (bc2 := (4 * F)) (bs2 := (24 * F)) (by omega) (by omega) ?_
        exact gL_law_J188 hst fu F s a1 a2 a3 a4 _ _ (fun w v4 => ih w v4) hk
      · refine G_ite (fun h1 => ?_) (fun h1 => ?_)
        · refine G_tableIn (off := 221) (tgt := 261) (pc := 40) dL_law_40 (by omega) (by rw [h1]; rfl) (by decide) ?_
          refine G_less (bc2 := (4 * F + 1)) (bs2 := (24 * F + 6)) (by omega) (by omega) ?_
          exact gL_law_J261 hst fu F s a1 a2 a3 a4 _ _ (fun w v4 => ih w v4) hk
        · refine G_ite (fun h2 => ?_) (fun h2 => ?_)
          · refine G_tableIn (off := 249) (tgt := 289) (pc := 40) dL_law_40 (by omega) (by rw [h2]; rfl) (by decide) ?_
            refine G_less (bc2 := (4 * F + 1)) (bs2 := (24 * F + 6)) (by omega) (by omega) ?_
            exact gL_law_J289 hst fu F s a1 a2 a3 a4 _ _ (fun w v4 => ih w v4) hk
          · refine G_ite (fun h3 => ?_) (fun h3 => ?_)
            · refine G_tableIn (off := 277) (tgt := 317) (pc := 40) dL_law_40 (by omega) (by rw [h3]; rfl) (by decide) ?_
              refine G_less (bc2 := (4 * F)) (bs2 := (24 * F)) (by omega) (by omega) ?_
              exact gL_law_J317 hst fu F s a1 a2 a3 a4 _ _ (fun w v4 => ih w v4) hk
            · refine G_ite (fun h4 => ?_) (fun h4 => ?_)
              · refine G_tableIn (off := 290) (tgt := 330) (pc := 40) dL_law_40 (by omega) (by rw [h4]; rfl) (by decide) ?_
                refine G_less (bc2 := (4 * F + 2)) (bs2 := (24 * F + 12)) (by omega) (by omega) ?_
                exact gL_law_J330 hst fu F s a1 a2 a3 a4 _ _ (fun w v4 => ih w v4) hk
              · refine G_ite (fun h5 => ?_) (fun h5 => ?_)
                · refine G_tableIn (off := 330) (tgt := 370) (pc := 40) dL_law_40 (by omega) (by rw [h5]; rfl) (by decide) ?_
                  refine G_less (bc2 := (4 * F + 3)) (bs2 := (24 * F + 18)) (by omega) (by omega) ?_
                  exact gL_law_J370 hst fu F s a1 a2 a3 a4 _ _ (fun w v4 => ih w v4) hk
                · refine G_ite (fun h6 => ?_) (fun h6 => ?_)
                  · refine G_tableIn (off := 370) (tgt := 410) (pc := 40) dL_law_40 (by omega) (by rw [h6]; rfl) (by decide) ?_
                    refine G_less (bc2 := (4 * F)) (bs2 := (24 * F)) (by omega) (by omega) ?_
                    exact gL_law_J410 hst fu F s a1 a2 a3 a4 _ _ (fun w v4 => ih w v4) hk
                  · refine G_ite (fun h7 => ?_) (fun h7 => ?_)
                    · refine G_tableIn (off := 383) (tgt := 423) (pc := 40) dL_law_40 (by omega) (by rw [h7]; rfl) (by decide) ?_
                      refine G_less (bc2 := (4 * F + 1)) (bs2 := (24 * F + 6)) (by omega) (by omega) ?_
                      exact gL_law_J423 hst fu F s a1 a2 a3 a4 _ _ (fun w v4 => ih w v4) hk
                    · refine G_ite (fun h8 => ?_) (fun h8 => ?_)
                      · refine G_tableIn (off := 411) (tgt := 451) (pc := 40) dL_law_40 (by omega) (by rw [h8]; rfl) (by decide) ?_
                        refine G_less (bc2 := (4 * F + 2)) (bs2 := (24 * F + 12)) (by omega) (by omega) ?_
                        exact gL_law_J451 hst fu F s a1 a2 a3 a4 _ _ (fun w v4 => ih w v4) hk
                      · refine G_ite (fun h9 => ?_) (fun h9 => ?_)
                        · refine G_tableIn (off := 451) (tgt := 491) (pc := 40) dL_law_40 (by omega) (by rw [h9]; rfl) (by decide) ?_
                          refine G_less (bc2 := (4 * F + 2)) (bs2 := (24 * F + 12)) (by omega) (by omega) ?_
                          exact gL_law_J491 hst fu F s a1 a2 a3 a4 _ _ (fun w v4 => ih w v4) hk
                        · refine G_ite (fun h10 => ?_) (fun h10 => ?_)
                          · refine G_tableIn (off := 491) (tgt := 531) (pc := 40) dL_law_40 (by omega) (by rw [h10]; rfl) (by decide) ?_
                            refine G_less (bc2 := (4 * F + 2)) (bs2 := (24 * F + 12)) (by omega) (by omega) ?_
                            exact gL_law_J531 hst fu F s a1 a2 a3 a4 _ _ (fun w v4 => ih w v4) hk
                          · refine G_ite (fun h11 => ?_) (fun h11 => ?_)
                            · refine G_tableIn (off := 531) (tgt := 571) (pc := 40) dL_law_40 (by omega) (by rw [h11]; rfl) (by decide) ?_
                              refine G_less (bc2 := (4 * F + 2)) (bs2 := (24 * F + 12)) (by omega) (by omega) ?_
                              exact gL_law_J571 hst fu F s a1 a2 a3 a4 _ _ (fun w v4 => ih w v4) hk
                            · refine G_ite (fun h12 => ?_) (fun h12 => ?_)
                              · refine G_tableIn (off := 571) (tgt := 611) (pc := 40) dL_law_40 (by omega) (by rw [h12]; rfl) (by decide) ?_
                                refine G_less (bc2 := (4 * F + 4)) (bs2 := (24 * F + 24)) (by omega) (by omega) ?_
                                exact gL_law_J611 hst fu F s a1 a2 a3 a4 _ _ (fun w v4 => ih w v4) hk
                              · refine G_ite (fun h13 => ?_) (fun h13 => ?_)
                                · refine G_tableIn (off := 635) (tgt := 675) (pc := 40) dL_law_40 (by omega) (by rw [h13]; rfl) (by decide) ?_
                                  refine G_less (bc2 := (4 * F + 1)) (bs2 := (24 * F + 6)) (by omega) (by omega) ?_
                                  exact gL_law_J675 hst fu F s a1 a2 a3 a4 _ _ (fun w v4 => ih w v4) hk
                                · refine G_ite (fun h14 => ?_) (fun h14 => ?_)
                                  · refine G_tableIn (off := 675) (tgt := 715) (pc := 40) dL_law_40 (by omega) (by rw [h14]; rfl) (by decide) ?_
                                    refine G_less (bc2 := (4 * F + 1)) (bs2 := (24 * F + 6)) (by omega) (by omega) ?_
                                    exact gL_law_J715 hst fu F s a1 a2 a3 a4 _ _ (fun w v4 => ih w v4) hk
                                  · refine G_ite (fun h15 => ?_) (fun h15 => ?_)
                                    · refine G_tableIn (off := 715) (tgt := 755) (pc := 40) dL_law_40 (by omega) (by rw [h15]; rfl) (by decide) ?_
                                      refine G_less (bc2 := (4 * F + 1)) (bs2 := (24 * F + 6)) (by omega) (by omega) ?_
                                      exact gL_law_J755 hst fu F s a1 a2 a3 a4 _ _ (fun w v4 => ih w v4) hk
                                    · refine G_ite (fun h16 => ?_) (fun h16 => ?_)
                                      · refine G_tableIn (off := 743) (tgt := 783) (pc := 40) dL_law_40 (by omega) (by rw [h16]; rfl) (by decide) ?_
                                        refine G_less (bc2 := (4 * F + 3)) (bs2 := (24 * F + 18)) (by omega) (by omega) ?_
                                        exact gL_law_J783 hst fu F s a1 a2 a3 a4 _ _ (fun w v4 => ih w v4) hk
                                      · refine G_ite (fun h17 => ?_) (fun h17 => ?_)
                                        · refine G_tableIn (off := 783) (tgt := 823) (pc := 40) dL_law_40 (by omega) (by rw [h17]; rfl) (by decide) ?_
                                          refine G_less (bc2 := (4 * F + 2)) (bs2 := (24 * F + 12)) (by omega) (by omega) ?_
                                          exact gL_law_J823 hst fu F s a1 a2 a3 a4 _ _ (fun w v4 => ih w v4) hk
                                        · refine G_ite (fun h18 => ?_) (fun h18 => ?_)
                                          · refine G_tableIn (off := 823) (tgt := 863) (pc := 40) dL_law_40 (by omega) (by rw [h18]; rfl) (by decide) ?_
                                            refine G_less (bc2 := (4 * F + 1)) (bs2 := (24 * F + 6)) (by omega) (by omega) ?_
                                            exact gL_law_J863 hst fu F s a1 a2 a3 a4 _ _ (fun w v4 => ih w v4) hk
                                          · refine G_ite (fun h19 => ?_) (fun h19 => ?_)
                                            · refine G_tableIn (off := 851) (tgt := 891) (pc := 40) dL_law_40 (by omega) (by rw [h19]; rfl) (by decide) ?_
                                              refine G_less (bc2 := (4 * F)) (bs2 := (24 * F)) (by omega) (by omega) ?_
                                              exact gL_law_J891 hst fu F s a1 a2 a3 a4 _ _ (fun w v4 => ih w v4) hk
                                            · refine G_ite (fun h20 => ?_) (fun h20 => ?_)
                                              · refine G_tableIn (off := 864) (tgt := 904) (pc := 40) dL_law_40 (by omega) (by rw [h20]; rfl) (by decide) ?_
                                                refine G_less (bc2 := (4 * F + 1)) (bs2 := (24 * F + 6)) (by omega) (by omega) ?_
                                                exact gL_law_J904 hst fu F s a1 a2 a3 a4 _ _ (fun w v4 => ih w v4) hk
                                              · refine G_ite (fun h21 => ?_) (fun h21 => ?_)
                                                · refine G_tableIn (off := 892) (tgt := 932) (pc := 40) dL_law_40 (by omega) (by rw [h21]; rfl) (by decide) ?_
                                                  refine G_less (bc2 := (4 * F)) (bs2 := (24 * F)) (by omega) (by omega) ?_
                                                  exact gL_law_J932 hst fu F s a1 a2 a3 a4 _ _ (fun w v4 => ih w v4) hk
                                                · refine G_ite (fun h22 => ?_) (fun h22 => ?_)
                                                  · refine G_tableIn (off := 905) (tgt := 945) (pc := 40) dL_law_40 (by omega) (by rw [h22]; rfl) (by decide) ?_
                                                    refine G_less (bc2 := (4 * F + 1)) (bs2 := (24 * F + 6)) (by omega) (by omega) ?_
                                                    exact gL_law_J945 hst fu F s a1 a2 a3 a4 _ _ (fun w v4 => ih w v4) hk
                                                  · refine G_ite (fun h23 => ?_) (fun h23 => ?_)
                                                    · refine G_tableIn (off := 933) (tgt := 973) (pc := 40) dL_law_40 (by omega) (by rw [h23]; rfl) (by decide) ?_
                                                      refine G_less (bc2 := (4 * F + 1)) (bs2 := (24 * F + 6)) (by omega) (by omega) ?_
                                                      exact gL_law_J973 hst fu F s a1 a2 a3 a4 _ _ (fun w v4 => ih w v4) hk
                                                    · refine G_ite (fun h24 => ?_) (fun h24 => ?_)
                                                      · refine G_tableIn (off := 961) (tgt := 1001) (pc := 40) dL_law_40 (by omega) (by rw [h24]; rfl) (by decide) ?_
                                                        refine G_less (bc2 := (4 * F + 1)) (bs2 := (24 * F + 6)) (by omega) (by omega) ?_
                                                        exact gL_law_J1001 hst fu F s a1 a2 a3 a4 _ _ (fun w v4 => ih w v4) hk
                                                      · refine G_ite (fun h25 => ?_) (fun h25 => ?_)
                                                        · refine G_tableIn (off := 989) (tgt := 1029) (pc := 40) dL_law_40 (by omega) (by rw [h25]; rfl) (by decide) ?_
                                                          refine G_less (bc2 := (4 * F + 3)) (bs2 := (24 * F + 18)) (by omega) (by omega) ?_
                                                          exact gL_law_J1029 hst fu F s a1 a2 a3 a4 _ _ (fun w v4 => ih w v4) hk
                                                        · refine G_ite (fun h26 => ?_) (fun h26 => ?_)
                                                          · refine G_tableIn (off := 1041) (tgt := 1081) (pc := 40) dL_law_40 (by omega) (by rw [h26]; rfl) (by decide) ?_
                                                            refine G_less (bc2 := (4 * F + 1)) (bs2 := (24 * F + 6)) (by omega) (by omega) ?_
                                                            exact gL_law_J1081 hst fu F s a1 a2 a3 a4 _ _ (fun w v4 => ih w v4) hk
                                                          · refine G_ite (fun h27 => ?_) (fun h27 => ?_)
                                                            · refine G_tableIn (off := 1069) (tgt := 1109) (pc := 40) dL_law_40 (by omega) (by rw [h27]; rfl) (by decide) ?_
                                                              refine G_less (bc2 := (4 * F + 1)) (bs2 := (24 * F + 6)) (by omega) (by omega) ?_
                                                              exact gL_law_J1109 hst fu F s a1 a2 a3 a4 _ _ (fun w v4 => ih w v4) hk
                                                            · refine G_ite (fun h28 => ?_) (fun h28 => ?_)
                                                              · refine G_tableIn (off := 1097) (tgt := 1137) (pc := 40) dL_law_40 (by omega) (by rw [h28]; rfl) (by decide) ?_
                                                                refine G_less (bc2 := (4 * F + 3)) (bs2 := (24 * F + 18)) (by omega) (by omega) ?_
                                                                exact gL_law_J1137 hst fu F s a1 a2 a3 a4 _ _ (fun w v4 => ih w v4) hk
                                                              · refine G_ite (fun h29 => ?_) (fun h29 => ?_)
                                                                · refine G_tableIn (off := 1137) (tgt := 1177) (pc := 40) dL_law_40 (by omega) (by rw [h29]; rfl) (by decide) ?_
                                                                  refine G_less (bc2 := (4 * F + 1)) (bs2 := (24 * F + 6)) (by omega) (by omega) ?_
                                                                  exact gL_law_J1177 hst fu F s a1 a2 a3 a4 _ _ (fun w v4 => ih w v4) hk
                                                                · refine G_ite (fun h30 => ?_) (fun h30 => ?_)
                                                                  · refine G_tableIn (off := 1165) (tgt := 1205) (pc := 40) dL_law_40 (by omega) (by rw [h30]; rfl) (by decide) ?_
                                                                    refine G_less (bc2 := (4 * F + 2)) (bs2 := (24 * F + 12)) (by omega) (by omega) ?_
                                                                    exact gL_law_J1205 hst fu F s a1 a2 a3 a4 _ _ (fun w v4 => ih w v4) hk
                                                                  · refine G_ite (fun h31 => ?_) (fun h31 => ?_)
                                                                    · refine G_tableIn (off := 1217) (tgt := 1257) (pc := 40) dL_law_40 (by omega) (by rw [h31]; rfl) (by decide) ?_
                                                                      refine G_less (bc2 := (4 * F + 1)) (bs2 := (24 * F + 6)) (by omega) (by omega) ?_
                                                                      exact gL_law_J1257 hst fu F s a1 a2 a3 a4 _ _ (fun w v4 => ih w v4) hk
                                                                    · refine G_ite (fun h32 => ?_) (fun h32 => ?_)
                                                                      · refine G_tableIn (off := 1273) (tgt := 1313) (pc := 40) dL_law_40 (by omega) (by rw [h32]; rfl) (by decide) ?_
                                                                        refine G_less (bc2 := (4 * F)) (bs2 := (24 * F)) (by omega) (by omega) ?_
                                                                        exact gL_law_J1313 hst fu F s a1 a2 a3 a4 _ _ (fun w v4 => ih w v4) hk
                                                                      · refine G_tableOut (tgt := 1338) (pc := 40) dL_law_40 (by omega) ?_
                                                                        refine G_less (bc2 := (4 * F)) (bs2 := (24 * F)) (by omega) (by omega) ?_
                                                                        exact gL_law_J1338 hst fu F s a1 a2 a3 a4 _ _ (fun w v4 => ih w v4) hk
