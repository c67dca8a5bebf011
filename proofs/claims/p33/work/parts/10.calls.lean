/-! THE LAYER, 6: contracts and calls -/
def z_Pc (K : z_K) (as : List z_V) (n : Nat) (τ σ : z_M) : Array Value → State → Prop := fun av U => av = (as.map (z_c K)).toArray ∧ z_gs as ∧ z_R K n τ σ U.heap ∧ z_W K U U.heap
theorem z_Pc_blind {K : z_K} {as : List z_V} {n : Nat} {τ σ : z_M} : FrameBlind (z_Pc K as n τ σ) := fun a U g mk h =>
  ⟨h.1, h.2.1, h.2.2.1, h.2.2.2.to (u := U) (U := U.calling g mk a) (State.WarmedH.refl U) (Nat.le_refl _) (fun _ _ _ => rfl)⟩
/-- a contract: M called with as at the heap (n, τ, σ) answers or throws as Q says; fr frames, lo words of locals, mc cells, ms slots -/
def z_C (l : Launch) (K : z_K) (M : z_Me) (fr lo mc ms : Nat) (as : List z_V) (n : Nat) (τ σ : z_M) (Q : z_Q) : Prop :=
  vx_Met l M.1 (z_ws M) ({ frames := fr, cells := mc, slots := ms, locals := lo } : Room) (z_Pc K as n τ σ) (z_QC K Q) (z_XC K Q) mc ms (z_A K)
theorem z_ent_len {K : z_K} (as : List z_V) (h : ∀ v ∈ as, v.1 ≠ 9) : (z_ent as).length = (lg_sl (as.map (z_c K))).length := (z_al_ent (K := K) as 0 h).2
theorem z_ent_has {K : z_K} {as : List z_V} {nL : Nat} (h : ∀ v ∈ as, v.1 ≠ 9) (hl : (z_ent as).length ≤ nL) : lv_has ((lg_sl (as.map (z_c K)) ++ List.replicate (nL - (lg_sl (as.map (z_c K))).length) Slot.unset).toArray) nL (z_al K 0 (z_en as nL)) := by
  have h1 := lv_entry (as.map (z_c K)) (n := nL) (by rw [← z_ent_len (K := K) as h]; exact hl)
  unfold z_en
  rw [z_al_app, z_al_rep, List.append_nil, (z_al_ent (K := K) as 0 h).1]
  exact h1
theorem z_gent : ∀ {as : List z_V}, z_gs as → z_gs (z_ent as)
  | [], _ => z_gs0
  | v :: t, h => by
    have ht := z_gent (z_gt h)
    have hv := z_gh h
    show z_gs (bif Nat.beq v.1 1 then v :: vU :: z_ent t else v :: z_ent t)
    cases Nat.beq v.1 1
    · exact z_gc hv ht
    · exact z_gc hv (z_gc z_gU ht)
theorem z_gen {as : List z_V} {nL : Nat} (h : z_gs as) : z_gs (z_en as nL) := fun v hv => by
  rcases List.mem_append.mp hv with h1 | h1
  · exact z_gent h v h1
  · rw [(List.mem_replicate.mp h1).2]; exact z_gU
theorem z_C_of {l : Launch} {K : z_K} {M : z_Me} {fr lo mc ms : Nat} {as : List z_V} {n : Nat} {τ σ : z_M} {Q : z_Q} (hst : l.stackTraces = false) (hM : z_MOK M) (h : V l K M fr lo mc ms 0 (z_en as M.2.2.1) [] n τ σ Q) (hl : (z_ent as).length ≤ M.2.2.1) (h9 : ∀ v ∈ as, v.1 ≠ 9) : z_C l K M fr lo mc ms as n τ σ Q := by
  obtain ⟨y, cc, ml, ret, hh⟩ := M
  have key : ∀ (p : Program) (e : Env) (s : State) (m : MethodId) (args : Array Value) (below : List Frame) (meth : Method) (c : Code) (s₁ : State), BodyLoose p l y (headSpec (z_ws (y, cc, ml, ret, hh)) ({ frames := fr, cells := mc, slots := ms, locals := lo } : Room)) cc ml ret e s m args below meth c s₁ → c.maxLocals = ml → c.exceptionTable.toList = tableOf hh → z_Pc K as n τ σ args s →
      W p l e (headSpec (z_ws (y, cc, ml, ret, hh)) ({ frames := fr, cells := mc, slots := ms, locals := lo } : Room)).room s m args below meth c s.heap [] 0 0 (vx_MQ below (z_QC K Q) (z_XC K Q) args s mc ms (z_A K)) (entryFrame m args ml) := by
    intro p e s m args below meth c s₁ B hml htab hP
    obtain ⟨rfl, hg, hR, hW⟩ := hP
    have hts := atoms_spec (ws := z_ws (y, cc, ml, ret, hh)) B.pre
    have F : z_F l K (y, cc, ml, ret, hh) p s m ((as.map (z_c K)).toArray) meth c := ⟨B.exec, B.bytes, hml, B.returns, B.notSynchronized, findClass_of_methodNamed B.named, fun w hw => hts w (List.mem_cons_of_mem _ hw), htab, (name_of_methodNamed B.named B.method).1, hst, hW⟩
    have hl9 := z_ent_has (K := K) (nL := ml) h9 hl
    rw [lg_entry_eq]
    exact h p e ({ frames := fr, cells := mc, slots := ms, locals := lo } : Room) s m ((as.map (z_c K)).toArray) below meth c s.heap [] 0 0 _ F (Nat.le_refl _) (Nat.le_refl _) (by show 0 + mc ≤ mc; omega) (by show 0 + ms ≤ ms; omega) hR va_S.rf hl9 (z_gen hg) z_gs0
  cases hh with
  | nil =>
    refine vx_ofW (cc := cc) (maxL := ml) (ret := ret) hM.1 rfl ?_
    intro p e s m args below meth c s₁ B hml ht hP
    refine key p e s m args below meth c s₁ B hml ?_ hP
    cases he : c.exceptionTable.toList with
    | nil => rfl
    | cons a b => exact absurd (ht a (by rw [he]; exact List.mem_cons_self)) id
  | cons q hh =>
    refine vx_ofWH (cc := cc) (maxL := ml) (ret := ret) (hh := q :: hh) hM.1 rfl ?_
    intro p e s m args below meth c s₁ B hml hP
    exact key p e s m args below meth c s₁ B hml (vx_table (x := y) B (atoms_spec (ws := z_ws (y, cc, ml, ret, q :: hh)) B.pre _ List.mem_cons_self)) hP
/-- weaker ends, more room -/
theorem z_C_mono {l : Launch} {K : z_K} {M : z_Me} {fr lo mc ms : Nat} {as : List z_V} {n : Nat} {τ σ : z_M} {Q Q' : z_Q} (h : z_C l K M fr lo mc ms as n τ σ Q) (hq : ∀ v n' τ' σ', Q v n' τ' σ' → Q' v n' τ' σ') : z_C l K M fr lo mc ms as n τ σ Q' := by
  intro p e h1 h2 h3 s m args below h4 h5 h6 h7
  obtain ⟨n9, o, g1, g2, g3, g4⟩ := h p e h1 h2 h3 s m args below h4 h5 h6 h7
  refine ⟨n9, o, g1, g2, g3, ?_⟩
  rcases g4 with ⟨⟨v, n', τ', σ', a1, a2, a3, a4⟩, b⟩ | ⟨q, a0, E, ce, L, ⟨x, n', τ', σ', a1, a2, a3⟩, b⟩
  · exact Or.inl ⟨⟨v, n', τ', σ', a1, a2, hq _ _ _ _ a3, a4⟩, b⟩
  · exact Or.inr ⟨q, a0, E, ce, L, ⟨x, n', τ', σ', a1, hq _ _ _ _ a2, a3⟩, b⟩
def z_push (v : z_V) (st : List z_V) : List z_V := if v.1 = 5 then st else v :: st
theorem z_push_map {K : z_K} {v : z_V} {st : List z_V} : (z_an K v).toList ++ st.map (z_c K) = (z_push v st).map (z_c K) := by
  unfold z_an z_push
  by_cases h : v.1 = 5
  · rw [if_pos h, if_pos h]; rfl
  · rw [if_neg h, if_neg h]; rfl
theorem z_gpush {v : z_V} {st : List z_V} (hv : z_g v) (h : z_gs st) : z_gs (z_push v st) := by
  unfold z_push
  by_cases h5 : v.1 = 5
  · rw [if_pos h5]; exact h
  · rw [if_neg h5]; exact z_gc hv h
section ZC
variable {l : Launch} {K : z_K} {M : z_Me} {fr lo bc bs pc : Nat} {lv st : List z_V} {n : Nat} {τ σ : z_M} {Q : z_Q}
/-- behind a call -/
theorem z_after {p : Program} {e : Env} {R : Room} {s : State} {m : MethodId} {args : Array Value} {below : List Frame} {meth : Method} {c : Code} {H : Heap} {locs : List Loc} {cells slots mc ms bc2 bs2 : Nat} {ls : Array Slot} {st0 : List Value} {a : Array Value} {Q2 : z_Q}
    (hr : vx_Run p l e R s m args below meth c H locs cells slots mc ms (F0 m pc ls st0) (st.map (z_c K)) (z_QC K Q2 a) (z_XC K Q2) (z_A K))
    (F : z_F l K M p s m args meth c) (h1 : fr ≤ R.frames) (h2 : lo ≤ R.locals) (h3 : cells + bc ≤ R.cells) (h4 : slots + bs ≤ R.slots) (hS : va_S (z_A K) s.heap H locs) (hl : lv_has ls M.2.2.1 (z_al K 0 lv)) (hg : z_gs lv) (hG : z_gs st) (hb : mc + bc2 ≤ bc ∧ ms + bs2 ≤ bs)
    (kr : ∀ (v : z_V) (n' : Nat) (τ' σ' : z_M), v.1 < 6 → z_g v → Q2 v n' τ' σ' → V l K M fr lo bc2 bs2 (pc + 3) lv (z_push v st) n' τ' σ' Q)
    (kx : ∀ (x : Int) (n' : Nat) (τ' σ' : z_M), Q2 (vX x) n' τ' σ' → VX l K M fr lo bc2 bs2 pc lv st n' τ' σ' x Q) :
    W p l e R s m args below meth c H locs cells slots (vx_MQ below (z_QC K Q) (z_XC K Q) args s R.cells R.slots (z_A K)) (F0 m pc ls st0) := by
  intro T hT X
  rcases hr T hT X with ⟨v, st₀, t, T', L, h0, X', hL, e1, e2, ⟨v2, n', τ', σ', hv, hlt, hq2, hg2, hR2, hF⟩, stp⟩ | ⟨q, st₀, t, T', L, E, ce, h0, X', hL, e1, e2, ⟨x, n', τ', σ', hx, hq2, hR2, hF⟩, hce, hcv, hcl, stp⟩
  · have hv9 : v = z_an K v2 := Outcome.returned.inj hv
    subst hv9
    obtain ⟨k1, k2, k3⟩ := vx_keep h0 e1 hS (fun _ _ h => h) (fun _ h => h) hL hF
    obtain ⟨t2, a1, b1⟩ := kr v2 n' τ' σ' hlt hg2 hq2 p e R s m args below meth c T'.heap (locs ++ L) (cells + mc) (slots + ms) ls F h1 h2 (by omega) (by omega) (by rw [e1]; exact hR2) k3 hl hg (z_gpush hg2 hG) T' rfl X'
    refine ⟨t2, stp t2 ?_, b1⟩
    rw [z_push_map]
    exact a1
  · obtain ⟨k1, k2, k3⟩ := vx_keep h0 e1 hS (fun _ _ h => h) (fun _ h => h) hL hF
    obtain ⟨t2, a1, b1⟩ := kx x n' τ' σ' hq2 p e R s m args below meth c T'.heap (locs ++ L) (cells + mc) (slots + ms) ls ce q F h1 h2 (by omega) (by omega) (by rw [e1]; exact hR2) k3 hl hg hG (by rw [e1]; exact hce) hcv (by rw [hx]; exact hcl) T' rfl X'
    exact ⟨t2, stp.trans a1, b1⟩
theorem z_goodws {M2 : z_Me} (hM : z_MOK M2) : ∀ w ∈ z_ws M2, w ∈ z_tbl := fun w hw => by
  rcases List.mem_cons.mp hw with h | h
  · rw [h]; exact hM.2.2.1
  · exact h
theorem z_goodAll {ws : List Cond} (h : ∀ w ∈ ws, w ∈ z_tbl) : GoodIn z_tbl ws := goodIn_sub h (List.all_eq_true.mpr fun w hw => (List.mem_filter.mp (h w hw)).2)
theorem z_fit {p : Program} {s : State} {m : MethodId} {args : Array Value} {meth : Method} {c : Code} {H : Heap} {locs : List Loc} (F : z_F l K M p s m args meth c) (hS : va_S (z_A K) s.heap H locs) {U : State} (hU : U.heap = H) (hW : s.WarmedH U.vm) : z_W K U U.heap :=
  F.2.2.2.2.2.2.2.2.2.2.to hW (by rw [hU]; exact hS.1) (fun a h1 h2 => by rw [hU]; exact hS.2.1 a h1 h2)
/-- the rooms of a call -/
def z_rm (fr lo bc bs fr2 ml2 lo2 mc ms bc2 bs2 : Nat) (st : List z_V) : Prop := fr2 + 1 ≤ fr ∧ 8 + (ml2 + 11) + lo2 ≤ lo ∧ mc + bc2 ≤ bc ∧ ms + bs2 ≤ bs ∧ z_wt st ≤ 8
theorem z_map_rev {as st : List z_V} {k : Int} (h5 : 1 ≤ k) : (as.reverse ++ vR k :: st).map (z_c K) = (as.map (z_c K)).reverse ++ .ref (K.1 + k.toNat) :: st.map (z_c K) := by
  rw [List.map_append, List.map_reverse, List.map_cons]
  show _ ++ z_rv K k :: _ = _
  rw [z_rv_pos h5]
theorem z_pcR {as : List z_V} {k : Int} (h5 : 1 ≤ k) : (Value.ref (K.1 + k.toNat) :: as.map (z_c K)).toArray = ((vR k :: as).map (z_c K)).toArray := by
  rw [List.map_cons]
  show _ = (z_rv K k :: _).toArray
  rw [z_rv_pos h5]
theorem V_callV {idx na c fr2 lo2 mc ms bc2 bs2 : Nat} {M2 : z_Me} {as : List z_V} {k : Int} {Q2 : z_Q} {r : vw_C} (hd : decode M.2.1 pc = .ok (.invokevirtual idx, 3)) (hM : z_MOK M2) (hV : z_VOK M2 na) (hw : Cond.methodLink M.1.cls idx M2.1 ∈ z_tbl) (hC : z_C l K M2 fr2 lo2 mc ms (vR k :: as) n τ σ Q2)
    (hn : as.length = na) (h5 : 1 ≤ k) (h6 : k ≤ n) (hs : (z_sh k).1 = c) (hc : c < 100) (hcl : vwCl[c]? = some r) (hcn : r.1 = M2.1.cls) (hrm : z_rm fr lo bc bs fr2 M2.2.2.1 lo2 mc ms bc2 bs2 st)
    (kr : ∀ (v : z_V) (n' : Nat) (τ' σ' : z_M), v.1 < 6 → z_g v → Q2 v n' τ' σ' → V l K M fr lo bc2 bs2 (pc + 3) lv (z_push v st) n' τ' σ' Q)
    (kx : ∀ (x : Int) (n' : Nat) (τ' σ' : z_M), Q2 (vX x) n' τ' σ' → VX l K M fr lo bc2 bs2 pc lv st n' τ' σ' x Q) : V l K M fr lo bc bs pc lv (as.reverse ++ vR k :: st) n τ σ Q := by
  intro p e R s m args below meth cd H locs cells slots ls F h1 h2 h3 h4 hR hS hl hg hG
  obtain ⟨r1, r2, r3, r4, r5⟩ := hrm
  have hts := F.2.2.2.2.2.2.1
  have hGa : z_gs (vR k :: as) := z_gc (z_gR k) (fun v hv => hG v (List.mem_append_left _ (List.mem_reverse.mpr hv)))
  have hGs : z_gs st := fun v hv => hG v (List.mem_append_right _ (List.mem_cons_of_mem _ hv))
  rw [z_map_rev h5]
  have hws : z_ws M2 = Cond.code M2.1 M2.2.1 M2.2.2.1 M2.2.2.2.1 :: z_tbl := by
    unfold z_ws z_cw
    rw [hV.2.2.2]
  refine z_after (mc := mc) (ms := ms) (vx_runV (As := as.map (z_c K)) ⟨F.1, F.2.1, F.2.2.1, F.2.2.2.2.2.1, hts⟩ hC (cwV (C := M2.1.cls) na hts (z_goodAll (fun w hw9 => ?_)) hws rfl rfl ⟨rfl, hM.2.1.1, hM.2.1.2, hV.2.2.1⟩ ⟨by show fr2 + 1 ≤ _; omega, by show 8 + (_ + 11) + lo2 ≤ _; omega⟩) ⟨z_Pc_blind, ?_, fun U hU hW => ⟨z_pcR h5, hGa, by rw [hU]; exact hR, z_fit F hS hU hW⟩⟩ rfl (by rw [List.length_map]; exact hn) hl.1 rfl (lv_room (by rw [z_wt_eq]; exact r5)) hd ⟨by omega, by omega⟩) F h1 h2 h3 h4 hS hl hg hGs ⟨r3, r4⟩ kr kx
  · unfold wsV at hw9
    rcases List.mem_append.mp hw9 with h9 | h9
    · simp only [List.mem_cons, List.not_mem_nil, or_false] at h9
      rcases h9 with h9 | h9 | h9 | h9
      · rw [h9]; exact hw
      · rw [h9]; exact hV.1
      · rw [h9]; exact hV.2.1
      · rw [h9]; exact hM.2.2.2
    · exact z_goodws hM w h9
  · rw [← hcn]
    exact va_recv F.2.2.2.2.2.2.2.2.2.2.1 (z_one (z_at_obj hR h5 h6 hs hc)) (q0 := 0) hcl rfl
theorem V_callS {idx na fr2 lo2 mc ms bc2 bs2 : Nat} {M2 : z_Me} {as : List z_V} {Q2 : z_Q} (hd : decode M.2.1 pc = .ok (.invokestatic idx, 3)) (hM : z_MOK M2) (hV : z_SOK M2 na) (hw : Cond.methodLink M.1.cls idx M2.1 ∈ z_tbl) (hC : z_C l K M2 fr2 lo2 mc ms as n τ σ Q2)
    (hn : as.length = na) (hrm : z_rm fr lo bc bs fr2 M2.2.2.1 lo2 mc ms bc2 bs2 st)
    (kr : ∀ (v : z_V) (n' : Nat) (τ' σ' : z_M), v.1 < 6 → z_g v → Q2 v n' τ' σ' → V l K M fr lo bc2 bs2 (pc + 3) lv (z_push v st) n' τ' σ' Q)
    (kx : ∀ (x : Int) (n' : Nat) (τ' σ' : z_M), Q2 (vX x) n' τ' σ' → VX l K M fr lo bc2 bs2 pc lv st n' τ' σ' x Q) : V l K M fr lo bc bs pc lv (as.reverse ++ st) n τ σ Q := by
  intro p e R s m args below meth cd H locs cells slots ls F h1 h2 h3 h4 hR hS hl hg hG
  obtain ⟨r1, r2, r3, r4, r5⟩ := hrm
  have hts := F.2.2.2.2.2.2.1
  have hGa : z_gs as := fun v hv => hG v (List.mem_append_left _ (List.mem_reverse.mpr hv))
  have hGs : z_gs st := fun v hv => hG v (List.mem_append_right _ hv)
  rw [List.map_append, List.map_reverse]
  have hwd : ∀ w ∈ va_wsS M.1.cls idx M2.1 (z_ws M2), w ∈ z_tbl := fun w hw9 => by
    unfold va_wsS at hw9
    rcases List.mem_append.mp hw9 with h9 | h9
    · simp only [List.mem_cons, List.not_mem_nil, or_false] at h9
      rcases h9 with h9 | h9 | h9
      · rw [h9]; exact hw
      · rw [h9]; exact hV.1
      · rw [h9]; exact hM.2.2.2
    · exact z_goodws hM w h9
  obtain ⟨y, cc, ml, ret, hh⟩ := M2
  have hp : PreS s H (z_Pc K as n τ σ) (as.map (z_c K)) := ⟨z_Pc_blind, fun U hU hW => ⟨rfl, hGa, by rw [hU]; exact hR, z_fit F hS hU hW⟩⟩
  cases hh with
  | nil => exact z_after (mc := mc) (ms := ms) (vx_runS (As := as.map (z_c K)) ⟨F.1, F.2.1, F.2.2.1, F.2.2.2.2.2.1, hts⟩ hC (va_cwS na hts (z_goodAll hwd) rfl rfl rfl ⟨hM.2.1.1, hM.2.1.2, hV.2⟩ ⟨by show fr2 + 1 ≤ _; omega, by show 8 + (ml + 11) + lo2 ≤ _; exact Nat.le_trans r2 h2⟩) hp rfl (by rw [List.length_map]; exact hn) hl.1 rfl (lv_room (by rw [z_wt_eq]; exact r5)) hd ⟨by omega, by omega⟩) F h1 h2 h3 h4 hS hl hg hGs ⟨r3, r4⟩ kr kx
  | cons q hh => exact z_after (mc := mc) (ms := ms) (vx_runSX (hh := q :: hh) (As := as.map (z_c K)) ⟨F.1, F.2.1, F.2.2.1, F.2.2.2.2.2.1, hts⟩ hC (vx_cwSW na hts (z_goodAll hwd) rfl rfl rfl ⟨hM.2.1.1, hM.2.1.2, hV.2⟩ ⟨by show fr2 + 1 ≤ _; omega, by show 8 + (ml + 11) + lo2 ≤ _; exact Nat.le_trans r2 h2⟩) hp rfl (by rw [List.length_map]; exact hn) hl.1 rfl (lv_room (by rw [z_wt_eq]; exact r5)) hd ⟨by omega, by omega⟩) F h1 h2 h3 h4 hS hl hg hGs ⟨r3, r4⟩ kr kx
theorem V_callI {idx na fr2 lo2 mc ms bc2 bs2 : Nat} {M2 : z_Me} {as : List z_V} {k : Int} {Q2 : z_Q} (hd : decode M.2.1 pc = .ok (.invokespecial idx, 3)) (hM : z_MOK M2) (hV : z_IOK M2 na) (hw : Cond.methodLink M.1.cls idx M2.1 ∈ z_tbl) (hC : z_C l K M2 fr2 lo2 mc ms (vR k :: as) n τ σ Q2)
    (hn : as.length = na) (h5 : 1 ≤ k) (hrm : z_rm fr lo bc bs fr2 M2.2.2.1 lo2 mc ms bc2 bs2 st)
    (kr : ∀ (v : z_V) (n' : Nat) (τ' σ' : z_M), v.1 < 6 → z_g v → Q2 v n' τ' σ' → V l K M fr lo bc2 bs2 (pc + 3) lv (z_push v st) n' τ' σ' Q)
    (kx : ∀ (x : Int) (n' : Nat) (τ' σ' : z_M), Q2 (vX x) n' τ' σ' → VX l K M fr lo bc2 bs2 pc lv st n' τ' σ' x Q) : V l K M fr lo bc bs pc lv (as.reverse ++ vR k :: st) n τ σ Q := by
  intro p e R s m args below meth cd H locs cells slots ls F h1 h2 h3 h4 hR hS hl hg hG
  obtain ⟨r1, r2, r3, r4, r5⟩ := hrm
  have hts := F.2.2.2.2.2.2.1
  have hGa : z_gs (vR k :: as) := z_gc (z_gR k) (fun v hv => hG v (List.mem_append_left _ (List.mem_reverse.mpr hv)))
  have hGs : z_gs st := fun v hv => hG v (List.mem_append_right _ (List.mem_cons_of_mem _ hv))
  rw [z_map_rev h5]
  obtain ⟨y, cc, ml, ret, hh⟩ := M2
  obtain ⟨v1, v2, v3, v4, v5⟩ := hV
  have v4' : hh = [] := v4
  have v5' : ret = none := v5
  subst v4'
  subst v5'
  exact z_after (mc := mc) (ms := ms) (vx_runI (As := as.map (z_c K)) ⟨F.1, F.2.1, F.2.2.1, F.2.2.2.2.2.1, hts⟩ hC (cwI na hts (z_goodAll (z_goodws hM)) rfl rfl rfl (hts _ hM.2.2.2) (hts _ hw) (hts _ v1) v2 ⟨hM.2.1.1, hM.2.1.2, v3⟩ ⟨by show fr2 + 1 ≤ _; omega, by show 8 + (ml + 11) + lo2 ≤ _; exact Nat.le_trans r2 h2⟩) ⟨z_Pc_blind, fun U hU hW => ⟨z_pcR h5, hGa, by rw [hU]; exact hR, z_fit F hS hU hW⟩⟩ rfl (by rw [List.length_map]; exact hn) hl.1 rfl (lv_room (by rw [z_wt_eq]; exact r5)) hd ⟨by omega, by omega⟩) F h1 h2 h3 h4 hS hl hg hGs ⟨r3, r4⟩ kr kx
/-- a private constructor of a nest mate: Text() -/
theorem V_callIN {idx na fr2 lo2 mc ms bc2 bs2 : Nat} {M2 : z_Me} {as : List z_V} {k : Int} {Q2 : z_Q} (hd : decode M.2.1 pc = .ok (.invokespecial idx, 3)) (hM : z_MOK M2) (hV : z_IOK M2 na) (hw : M2.1 = yX9_init ∧ ((M.1.cls = RX11 ∧ idx = z_n11) ∨ (M.1.cls = RX2 ∧ idx = z_n2))) (hC : z_C l K M2 fr2 lo2 mc ms (vR k :: as) n τ σ Q2)
    (hn : as.length = na) (h5 : 1 ≤ k) (hrm : z_rm fr lo bc bs fr2 M2.2.2.1 lo2 mc ms bc2 bs2 st)
    (kr : ∀ (v : z_V) (n' : Nat) (τ' σ' : z_M), v.1 < 6 → z_g v → Q2 v n' τ' σ' → V l K M fr lo bc2 bs2 (pc + 3) lv (z_push v st) n' τ' σ' Q)
    (kx : ∀ (x : Int) (n' : Nat) (τ' σ' : z_M), Q2 (vX x) n' τ' σ' → VX l K M fr lo bc2 bs2 pc lv st n' τ' σ' x Q) : V l K M fr lo bc bs pc lv (as.reverse ++ vR k :: st) n τ σ Q := by
  intro p e R s m args below meth cd H locs cells slots ls F h1 h2 h3 h4 hR hS hl hg hG
  obtain ⟨r1, r2, r3, r4, r5⟩ := hrm
  have hts := F.2.2.2.2.2.2.1
  have hX := F.2.2.2.2.2.2.2.2.2.2.2.2.2.2.2
  have hGa : z_gs (vR k :: as) := z_gc (z_gR k) (fun v hv => hG v (List.mem_append_left _ (List.mem_reverse.mpr hv)))
  have hGs : z_gs st := fun v hv => hG v (List.mem_append_right _ (List.mem_cons_of_mem _ hv))
  rw [z_map_rev h5]
  obtain ⟨y, cc, ml, ret, hh⟩ := M2
  obtain ⟨v1, v2, v3, v4, v5⟩ := hV
  have v4' : hh = [] := v4
  have v5' : ret = none := v5
  subst v4'
  subst v5'
  have hlink : va_Nw (.methodLinkNest M.1.cls idx y RX11) s := by
    obtain ⟨w1, w2⟩ := hw
    have w1' : y = yX9_init := w1
    rw [w1']
    rcases w2 with ⟨w3, w4⟩ | ⟨w3, w4⟩
    · rw [w3, w4]; exact hX.2.2.2.2.1
    · rw [w3, w4]; exact hX.2.2.2.2.2.1
  exact z_after (mc := mc) (ms := ms) (vx_runIN (host := RX11) (As := as.map (z_c K)) ⟨F.1, F.2.1, F.2.2.1, F.2.2.2.2.2.1, hts⟩ hC ⟨va_cnB na hts (z_goodAll (z_goodws hM)) rfl rfl rfl hlink (hts _ hM.2.2.2) ⟨hM.2.1.1, hM.2.1.2, v3⟩ ⟨by show fr2 + 1 ≤ _; omega, by show 8 + (ml + 11) + lo2 ≤ _; exact Nat.le_trans r2 h2⟩, v2, hts _ v1⟩ ⟨z_Pc_blind, fun U hU hW => ⟨z_pcR h5, hGa, by rw [hU]; exact hR, z_fit F hS hU hW⟩⟩ rfl (by rw [List.length_map]; exact hn) hl.1 rfl (lv_room (by rw [z_wt_eq]; exact r5)) hd ⟨by omega, by omega⟩) F h1 h2 h3 h4 hS hl hg hGs ⟨r3, r4⟩ kr kx
end ZC
