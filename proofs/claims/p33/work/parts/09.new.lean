/-! THE LAYER, 5: new cells, static tables, the script, answers -/
section ZN
variable {l : Launch} {K : z_K} {M : z_Me} {fr lo bc bs pc : Nat} {lv st : List z_V} {n : Nat} {τ σ : z_M} {Q : z_Q}
theorem z_S_new {A : Nat → Prop} {H0 H H1 : Heap} {locs : List Loc} (hS : va_S A H0 H locs) (z1 : H1.size = H.size + 1) (o1 : ∀ q : Nat, q < H.size → H1[q]? = H[q]?) : va_S A H0 H1 locs :=
  ⟨Nat.le_trans hS.1 (by omega), fun x h1 h2 => (o1 x (Nat.lt_of_lt_of_le h1 hS.1)).trans (hS.2.1 x h1 h2), hS.2.2⟩
theorem z_defs {c N : Nat} {C : String} {T : u_T} {ty : Nat → FieldType} {K : z_K} (hc : z_CL c C T N ty) : ∀ j, j < N → defaultValue (ty j) = vp_V (z_fs K c (fun _ => 0) (fun _ => 0)) j := by
  intro j hj
  obtain ⟨a1, a2, a3, a4, a5, a6, a7⟩ := hc
  have h := a7 j hj
  have e : vp_V (z_fs K c (fun _ => 0) (fun _ => 0)) j = z_c K (z_slot (z_ft c j) 0 0) := by
    unfold vp_V
    rw [List.getD_eq_getElem?_getD, z_fs_get (by omega)]
    rfl
  rw [e]
  unfold z_tyok at h
  split at h
  · rename_i heq
    rw [heq]
    show defaultValue (ty j) = z_rv K 0
    rw [z_rv_0]
    generalize ty j = t at h
    cases t <;> simp [FieldType.isReference] at h <;> rfl
  · rename_i heq heq2
    rw [heq, heq2]
    exact (show Value.int 0 = .int (Int32.ofInt 0) by decide)
  · rename_i heq heq2
    rw [heq, heq2]
    exact (show Value.int 0 = .int (Int32.ofInt 0) by decide)
  · cases h
theorem V_new {c idx N bc2 bs2 n2 : Nat} {C : String} {T : u_T} {ty : Nat → FieldType} {k : Int} (hd : decode M.2.1 pc = .ok (.new idx, 3)) (hc : z_CL c C T N ty) (hw : Cond.classLink M.1.cls idx C ∈ z_tbl) (hi : Cond.instantiable C N ∈ z_tbl) (hini : Cond.initialized C ∈ z_tbl) (hn : n < z_NC) (hn2 : n + 1 = n2) (hk : k = ((n + 1 : Nat) : Int)) (hs : (z_sh k).1 = c) (hb : bc2 + 1 ≤ bc ∧ bs2 + N ≤ bs)
    (kk : V l K M fr lo bc2 bs2 (pc + 3) lv (vR k :: st) n2 (z_nw τ k) (z_nw σ k) Q) : V l K M fr lo bc bs pc lv st n τ σ Q := by
  intro p e R s m args below meth cd H locs cells slots ls F h1 h2 h3 h4 hR hS hl hg hG
  subst hn2
  have hts := F.2.2.2.2.2.2.1
  have hK := F.2.2.2.2.2.2.2.2.2.2.1
  obtain ⟨a1, a2, a3, a4, a5, a6, a7⟩ := id hc
  have hKn := hK.1 c _ a1
  have hz := hR.2.1 hn
  refine W.newcK F.1 F.2.1 F.2.2.2.2.2.1 (hts _ hw) (hts _ hi) (hts _ hini) rfl hd (by omega) (by omega) hKn.2.1 rfl fun H1 kC hkC e1 z1 o1 => ?_
  have hat : va_at (K.2.1, K.2.2.1) vwCl (H.size, z_e K k (fun _ => 0) (fun _ => 0)) H1 := by
    unfold z_e
    rw [hs, if_pos a3]
    exact ⟨_, a1, (u_born ty hts a4 hKn hkC e1 a5).to (z_defs hc)⟩
  have e9 : Value.ref H.size = z_c K (vR k) := by
    have e8 : H.size = K.1 + k.toNat := by omega
    show _ = z_rv K k
    rw [z_rv_pos (by omega), ← e8]
  rw [e9]
  exact kk p e R s m args below meth cd H1 locs (cells + 1) (slots + N) ls F h1 h2 (by omega) (by omega) (z_R_new hR z1 o1 hn hk hat) (z_S_new hS z1 o1) hl hg (z_gc (z_gR k) hG)
theorem V_newa {c t0 bc2 bs2 n2 : Nat} {at0 : ArrayType} {ty : FieldType} {k len : Int} (hd : decode M.2.1 pc = .ok (.newarray at0, 2)) (hw : Cond.arrayClass ty ∈ z_tbl) (hn : n < z_NC) (hn2 : n + 1 = n2) (hk : k = ((n + 1 : Nat) : Int)) (hs : z_sh k = (c, len.toNat)) (hl5 : 0 ≤ len ∧ len ≤ 20100) (hb : bc2 + 1 ≤ bc ∧ bs2 + len.toNat ≤ bs)
    (kk : V l K M fr lo bc2 bs2 (pc + 2) lv (vR k :: st) n2 (z_nw τ k) (z_nw σ k) Q) (hty : newarray.typeOf at0 = ty := by rfl) (hc : (c = 100 ∧ ty = .int) ∨ (c = 101 ∧ ty = .long) ∨ (c = 102 ∧ ty = .boolean) := by decide) : V l K M fr lo bc bs pc lv (vI len :: st) n τ σ Q := by
  intro p e R s m args below meth cd H locs cells slots ls F h1 h2 h3 h4 hR hS hl hg hG
  subst hn2
  subst hty
  have hts := F.2.2.2.2.2.2.1
  have hK := F.2.2.2.2.2.2.2.2.2.2.1
  have hz := hR.2.1 hn
  have hli := z_hI hG
  have hcb : componentBytes (newarray.typeOf at0) ≤ 8 := by rcases hc with ⟨-, h9⟩ | ⟨-, h9⟩ | ⟨-, h9⟩ <;> rw [h9] <;> decide
  have hbytes : len.toNat * componentBytes (newarray.typeOf at0) ≤ 536870912 := by
    have h9 := Nat.mul_le_mul (show len.toNat ≤ 20100 by omega) hcb
    omega
  rw [List.map_cons]
  show W p l e R s m args below meth cd H locs cells slots _ (F0 m pc ls (.int (Int32.ofInt len) :: _))
  refine va_newaK F.1 F.2.1 (hts _ hw) rfl hd rfl (by
    intro q9
    have h9 := (z_lt hli z_I0).mp q9
    omega) (z_clamp hl5.1 hli.2) hbytes (by omega) (by omega) rfl fun H1 cA e1 z1 o1 hAr hNm => ?_
  have hcA : cA = K.2.2.2.1 c := by
    rcases hc with ⟨h9, h8⟩ | ⟨h9, h8⟩ | ⟨h9, h8⟩
    · rw [h8] at hNm
      rw [h9]
      exact Option.some.inj (hNm.symm.trans (hK.2 0 _ rfl).2)
    · rw [h8] at hNm
      rw [h9]
      exact Option.some.inj (hNm.symm.trans (hK.2 1 _ rfl).2)
    · rw [h8] at hNm
      rw [h9]
      exact Option.some.inj (hNm.symm.trans (hK.2 2 _ rfl).2)
  subst hcA
  have hc100 : ¬ c < 100 := by rcases hc with ⟨h9, -⟩ | ⟨h9, -⟩ | ⟨h9, -⟩ <;> omega
  have hat : va_at (K.2.1, K.2.2.1) vwCl (H.size, z_e K k (fun _ => 0) (fun _ => 0)) H1 := by
    unfold z_e
    rw [hs]
    dsimp only
    rw [if_neg hc100]
    show H1[H.size]? = some (vp_cell _ _)
    rw [e1]
    rcases hc with ⟨h9, h8⟩ | ⟨h9, h8⟩ | ⟨h9, h8⟩
    · rw [h8, h9, if_neg (by decide), if_pos (by decide), vp_cell_i]; rfl
    · rw [h8, h9, if_pos rfl, vp_cell_l]; rfl
    · rw [h8, h9, if_neg (by decide), if_pos (by decide), vp_cell_i]; rfl
  have e9 : Value.ref H.size = z_c K (vR k) := by
    have e8 : H.size = K.1 + k.toNat := by omega
    show _ = z_rv K k
    rw [z_rv_pos (by omega), ← e8]
  rw [e9]
  exact kk p e R s m args below meth cd H1 locs (cells + 1) (slots + len.toNat) ls F h1 h2 (by omega) (by omega) (z_R_new hR z1 o1 hn hk hat) (z_S_new hS z1 o1) hl hg (z_gc (z_gR k) (z_gt hG))
/-- new Text[] -/
theorem V_anew {idx bc2 bs2 n2 : Nat} {k len : Int} (hd : decode M.2.1 pc = .ok (.anewarray idx, 3)) (hw : Cond.classLink M.1.cls idx RX9 ∈ z_tbl) (hn : n < z_NC) (hn2 : n + 1 = n2) (hk : k = ((n + 1 : Nat) : Int)) (hs : z_sh k = (104, len.toNat)) (hl5 : 0 ≤ len ∧ len ≤ 20100) (hb : bc2 + 1 ≤ bc ∧ bs2 + len.toNat ≤ bs)
    (kk : V l K M fr lo bc2 bs2 (pc + 3) lv (vR k :: st) n2 (z_nw τ k) (z_nw σ k) Q) : V l K M fr lo bc bs pc lv (vI len :: st) n τ σ Q := by
  intro p e R s m args below meth cd H locs cells slots ls F h1 h2 h3 h4 hR hS hl hg hG
  subst hn2
  have hts := F.2.2.2.2.2.2.1
  have hK := F.2.2.2.2.2.2.2.2.2.2.1
  have hz := hR.2.1 hn
  have hli := z_hI hG
  rw [List.map_cons]
  show W p l e R s m args below meth cd H locs cells slots _ (F0 m pc ls (.int (Int32.ofInt len) :: _))
  have hcl := z_clamp hl5.1 hli.2
  refine W.anew F.1 F.2.1 F.2.2.2.2.2.1 (hts _ hw) (va_AO.use F.2.2.2.2.2.2.2.2.2.2.2.2.2.2.2.2.2.2.2.2.2.1) rfl hd rfl (by
    intro q9
    have h9 := (z_lt hli z_I0).mp q9
    omega) (by rw [hcl]; omega) (by omega) (by rw [hcl]; omega) fun cA kA comp f1 f2 f3 f4 => ?_
  rw [hcl]
  have hcA : cA = K.2.2.2.1 104 := by
    obtain ⟨-, kA9, comp9, g1, g2, g3, g4⟩ := hK.2 4 _ rfl
    exact Option.some.inj (f1.symm.trans g4)
  subst hcA
  generalize hH1 : H.push ({ cls := K.2.2.2.1 104, slots := Array.replicate len.toNat .null, vm := .none } : Cell) = H1
  have z1 : H1.size = H.size + 1 := by rw [← hH1, Array.size_push]
  have e1 : H1[H.size]? = some (arrV (K.2.2.2.1 104) len.toNat (fun _ => .null)) := by rw [← hH1, Array.getElem?_push_size, ← arrV_new]
  have o1 : ∀ q : Nat, q < H.size → H1[q]? = H[q]? := fun q hq => by rw [← hH1, Array.getElem?_push, if_neg (Nat.ne_of_lt hq)]
  have hat : va_at (K.2.1, K.2.2.1) vwCl (H.size, z_e K k (fun _ => 0) (fun _ => 0)) H1 := by
    unfold z_e
    rw [hs]
    dsimp only
    rw [if_neg (by decide)]
    show H1[H.size]? = some (vp_cell _ _)
    rw [e1, if_neg (by decide), if_neg (by decide), vp_cell_q]
    rfl
  have e9 : Value.ref H.size = z_c K (vR k) := by
    have e8 : H.size = K.1 + k.toNat := by omega
    show _ = z_rv K k
    rw [z_rv_pos (by omega), ← e8]
  rw [e9]
  exact kk p e R s m args below meth cd H1 locs (cells + 1) (slots + len.toNat) ls F h1 h2 (by omega) (by omega) (z_R_new hR z1 o1 hn hk hat) (z_S_new hS z1 o1) hl hg (z_gc (z_gR k) (z_gt hG))
/-- a Text into an array of these -/
theorem V_aast {k i x : Int} (hd : decode M.2.1 pc = .ok (.aastore, 1)) (h5 : 1 ≤ k) (h6 : k ≤ n) (hs : (z_sh k).1 = 104) (h7 : 0 ≤ i) (h8 : i < (z_sh k).2) (hx1 : 1 ≤ x) (hx2 : x ≤ n) (hxs : (z_sh x).1 = 9) (kk : V l K M fr lo bc bs (pc + 1) lv st n (z_up τ k i x) σ Q) : V l K M fr lo bc bs pc lv (vR x :: vI i :: vR k :: st) n τ σ Q := by
  intro p e R s m args below meth cd H locs cells slots ls F h1 h2 h3 h4 hR hS hl hg hG
  have hK := F.2.2.2.2.2.2.2.2.2.2.1
  obtain ⟨y, ha, rfl⟩ := z_arrc hR h5 h6 hs (by decide)
  rw [if_neg (by decide), if_neg (by decide), vp_cell_q] at ha
  have hv := z_at_obj hR hx1 hx2 hxs (by decide)
  rw [List.map_cons, List.map_cons, List.map_cons]
  show W p l e R s m args below meth cd H locs cells slots _ (F0 m pc ls (z_rv K x :: .int (Int32.ofInt i) :: z_rv K k :: _))
  rw [z_rv_pos h5, z_rv_pos hx1]
  have hi := z_hI (z_gt hG)
  obtain ⟨r', hr', cellV, g1, g2, g3, -⟩ := hv
  have hcls := (hK.1 9 r' hr').2
  obtain ⟨kA, comp, k1, k2, k3, -⟩ := (hK.2 4 _ rfl).2
  have hr9 : r' = (RX9, TX9, 9) := Option.some.inj (hr'.symm.trans rfl)
  subst hr9
  have hcomp : comp = K.2.1 9 := Option.some.inj (k3.symm.trans hcls.1)
  subst hcomp
  obtain ⟨kC, hkC, -⟩ := hcls.2
  refine W.aast F.1 F.2.1 ha (fun q h => by cases h) (fun h => by cases h) k1 k2 rfl hkC ⟨fun q9 => by have h9 := (z_lt hi z_I0).mp q9; omega, by rw [arrV_size, z_clamp h7 hi.2]; omega⟩ g1 (fun q h => by rw [g3] at h; cases h) (by rw [g2]; exact hkC) (by rw [g2]; exact va_assign hcls) rfl rfl hd fun H1 e1 z1 o1 => ?_
  rw [z_clamp h7 hi.2, arrV_store] at e1
  refine kk p e R s m args below meth cd H1 _ cells slots ls F h1 h2 h3 h4 (z_R_put hR h5 h6 z1 o1 ?_ (fun _ _ => rfl) (fun a ha => z_up_row ha) hR.2.2.2) (hS.put z1 o1 (by show K.1 < K.1 + k.toNat; omega)) hl hg (z_gt (z_gt (z_gt hG)))
  rw [z_cellz hs (by decide), if_neg (by decide), if_neg (by decide)]
  show H1[K.1 + k.toNat]? = some (vp_cell _ _)
  rw [vp_cell_q, e1]
  congr 2
  funext j
  by_cases e9 : j = i.toNat
  · have e2 : ((j : Nat) : Int) = i := by omega
    rw [e2, z_up_s, z_o_rf, z_rv_pos hx1]
    simp [updV, e9]
  · rw [z_up_j (by omega)]
    simp [updV, e9]
/-! static tables -/
theorem V_gets {idx i : Nat} (hd : decode M.2.1 pc = .ok (.getstatic idx, 3)) (hi : i < 3) (hw : Cond.fieldLink M.1.cls idx RX11 (z_tn i) "[I" ∈ z_tbl) (kk : V l K M fr lo bc bs (pc + 3) lv (vT i :: st) n τ σ Q) : V l K M fr lo bc bs pc lv st n τ σ Q := by
  intro p e R s m args below meth cd H locs cells slots ls F h1 h2 h3 h4 hR hS hl hg hG
  have kk := kk p e R s m args below meth cd H locs cells slots ls F h1 h2 h3 h4 hR hS hl hg (z_gc (z_gO (by decide) (by decide)) hG)
  exact va_gets F.1 F.2.1 ((F.2.2.2.2.2.2.2.2.2.2.2.1 i hi).2) hS F.2.2.2.2.2.1 (F.2.2.2.2.2.2.1 _ hw) (fun _ h => h) hd kk
theorem V_tald {i : Nat} {j x : Int} (hd : decode M.2.1 pc = .ok (.iaload, 1)) (hi : i < 3) (h7 : 0 ≤ j) (h8 : j < 9) (hv : z_tb i j.toNat = x) (hx : z_I x) (kk : V l K M fr lo bc bs (pc + 1) lv (vI x :: st) n τ σ Q) : V l K M fr lo bc bs pc lv (vI j :: vT i :: st) n τ σ Q := by
  intro p e R s m args below meth cd H locs cells slots ls F h1 h2 h3 h4 hR hS hl hg hG
  have hj := z_hI hG
  have kk := kk p e R s m args below meth cd H locs cells slots ls F h1 h2 h3 h4 hR hS hl hg (z_gc (z_gI hx) (z_gt (z_gt hG)))
  have hin : vp_in (Int32.ofInt j) 9 := z_vpin h7 (by omega) hj
  exact va_ti F.1 F.2.1 ((F.2.2.2.2.2.2.2.2.2.2.2.1 i hi).1) hS hin (by rw [z_clamp h7 hj.2, hv]; rfl) hd kk
theorem V_tlen {i : Nat} (hd : decode M.2.1 pc = .ok (.arraylength, 1)) (hi : i < 3) (kk : V l K M fr lo bc bs (pc + 1) lv (vI 9 :: st) n τ σ Q) : V l K M fr lo bc bs pc lv (vT i :: st) n τ σ Q := by
  intro p e R s m args below meth cd H locs cells slots ls F h1 h2 h3 h4 hR hS hl hg hG
  have kk := kk p e R s m args below meth cd H locs cells slots ls F h1 h2 h3 h4 hR hS hl hg (z_gc (z_gI (by decide)) (z_gt hG))
  exact va_tlen F.1 F.2.1 ((F.2.2.2.2.2.2.2.2.2.2.2.1 i hi).1) hS (v := Int32.ofInt 9) (by decide) hd kk
/-! the script -/
theorem V_sald {j : Int} (hd : decode M.2.1 pc = .ok (.iaload, 1)) (h7 : 0 ≤ j) (h8 : j < (K.2.2.2.2.2.2.1 : Nat)) (kk : V l K M fr lo bc bs (pc + 1) lv (vI (K.2.2.2.2.2.2.2 j.toNat).toInt :: st) n τ σ Q) : V l K M fr lo bc bs pc lv (vI j :: vA K.2.2.2.2.2.1 :: st) n τ σ Q := by
  intro p e R s m args below meth cd H locs cells slots ls F h1 h2 h3 h4 hR hS hl hg hG
  have hj := z_hI hG
  have kk := kk p e R s m args below meth cd H locs cells slots ls F h1 h2 h3 h4 hR hS hl hg (z_gc (z_gI (z_Ii _)) (z_gt (z_gt hG)))
  have hW := F.2.2.2.2.2.2.2.2.2.2.2.2.2.2.1
  have e9 : z_c K (vI (K.2.2.2.2.2.2.2 j.toNat).toInt) = .int (K.2.2.2.2.2.2.2 (Int32.ofInt j).toNatClampNeg) := by
    rw [z_clamp h7 hj.2]
    show Value.int (Int32.ofInt _) = _
    rw [z_oi]
  rw [List.map_cons, e9] at kk
  exact va_sld F.1 F.2.1 hW.1 hW.2.1 hW.2.2.1 hS (z_vpin h7 h8 hj) hd kk
theorem V_slen (hd : decode M.2.1 pc = .ok (.arraylength, 1)) (kk : V l K M fr lo bc bs (pc + 1) lv (vI (K.2.2.2.2.2.2.1 : Nat) :: st) n τ σ Q) : V l K M fr lo bc bs pc lv (vA K.2.2.2.2.2.1 :: st) n τ σ Q := by
  intro p e R s m args below meth cd H locs cells slots ls F h1 h2 h3 h4 hR hS hl hg hG
  have hW := F.2.2.2.2.2.2.2.2.2.2.2.2.2.2.1
  have h9 := hW.2.2.2
  have kk := kk p e R s m args below meth cd H locs cells slots ls F h1 h2 h3 h4 hR hS hl hg (z_gc (z_gI ⟨by omega, by omega⟩) (z_gt hG))
  have e9 : z_c K (vI (K.2.2.2.2.2.2.1 : Nat)) = .int (Int32.ofNat K.2.2.2.2.2.2.1) := by
    show Value.int (Int32.ofInt _) = _
    rw [Int32.ofInt_eq_ofNat]
  rw [List.map_cons, e9] at kk
  exact va_slen F.1 F.2.1 hW.1 hW.2.1 hW.2.2.1 hS hd kk
/-! answers -/
theorem z_fin {p : Program} {e : Env} {R : Room} {s : State} {m : MethodId} {args : Array Value} {below : List Frame} {meth : Method} {cd : Code} {H : Heap} {locs : List Loc} {v : z_V} (hR : z_R K n τ σ H) (hS : va_S (z_A K) s.heap H locs) (hq : Q v n τ σ) (hv : v.1 < 6) (hg : z_g v) : ∀ t : State, t.heap = H → s.WarmedH t.vm → z_QC K Q args s (.returned (z_an K v)) t :=
  fun t ht _ => ⟨v, n, τ, σ, rfl, hv, hq, hg, by rw [ht]; exact hR, hS.F ht⟩
theorem V_iret {x : Int} (hd : decode M.2.1 pc = .ok (.ireturn, 1)) (hq : z_I x → Q (vI x) n τ σ) (hr : M.2.2.2.1 = some .int := by rfl) : V l K M fr lo bc bs pc lv [vI x] n τ σ Q := by
  intro p e R s m args below meth cd H locs cells slots ls F h1 h2 h3 h4 hR hS hl hg hG
  refine W.widen (k := R.cells) (n := R.slots) (by omega) (by omega) (vx_ret ?_)
  exact W.iret F.1 F.2.1 (F.2.2.2.1.trans hr) (z_fin (p := p) (e := e) (R := R) (m := m) (below := below) (meth := meth) (cd := cd) (v := vI x) hR hS (hq (z_hI hG)) (by show 0 < 6; decide) (z_gh hG)) hS.2.2 hd F.2.2.2.2.1
theorem V_zret {x : Int} (hd : decode M.2.1 pc = .ok (.ireturn, 1)) (hb : x = 0 ∨ x = 1) (hq : Q (vI x) n τ σ) (hr : M.2.2.2.1 = some .boolean := by rfl) : V l K M fr lo bc bs pc lv [vI x] n τ σ Q := by
  intro p e R s m args below meth cd H locs cells slots ls F h1 h2 h3 h4 hR hS hl hg hG
  refine W.widen (k := R.cells) (n := R.slots) (by omega) (by omega) (vx_ret ?_)
  have hnr : narrow .boolean (.int (Int32.ofInt x)) = .int (Int32.ofInt x) := by rcases hb with h9 | h9 <;> rw [h9] <;> decide
  exact W.zret F.1 F.2.1 (F.2.2.2.1.trans hr) hnr (z_fin (p := p) (e := e) (R := R) (m := m) (below := below) (meth := meth) (cd := cd) (v := vI x) hR hS hq (by show 0 < 6; decide) (z_gh hG)) hS.2.2 hd F.2.2.2.2.1
theorem V_lret {x : Int} (hd : decode M.2.1 pc = .ok (.lreturn, 1)) (hq : z_L x → Q (vL x) n τ σ) (hr : M.2.2.2.1 = some .long := by rfl) : V l K M fr lo bc bs pc lv [vL x] n τ σ Q := by
  intro p e R s m args below meth cd H locs cells slots ls F h1 h2 h3 h4 hR hS hl hg hG
  refine W.widen (k := R.cells) (n := R.slots) (by omega) (by omega) (vx_ret ?_)
  exact W.lret F.1 F.2.1 (F.2.2.2.1.trans hr) (z_fin (p := p) (e := e) (R := R) (m := m) (below := below) (meth := meth) (cd := cd) (v := vL x) hR hS (hq (z_hL hG)) (by show 1 < 6; decide) (z_gh hG)) hS.2.2 hd F.2.2.2.2.1
theorem V_vret (hd : decode M.2.1 pc = .ok (.return_, 1)) (hq : Q vN n τ σ) (hr : M.2.2.2.1 = none := by rfl) : V l K M fr lo bc bs pc lv [] n τ σ Q := by
  intro p e R s m args below meth cd H locs cells slots ls F h1 h2 h3 h4 hR hS hl hg hG
  refine W.widen (k := R.cells) (n := R.slots) (by omega) (by omega) (vx_ret ?_)
  exact W.vret F.1 F.2.1 (F.2.2.2.1.trans hr) (z_fin (p := p) (e := e) (R := R) (m := m) (below := below) (meth := meth) (cd := cd) (v := vN) hR hS hq (by show 5 < 6; decide) (z_gO (by decide) (by decide))) hS.2.2 hd F.2.2.2.2.1
theorem V_aret {x : Int} {rt : FieldType} (hd : decode M.2.1 pc = .ok (.areturn, 1)) (hq : Q (vR x) n τ σ) (hr : M.2.2.2.1 = some rt := by rfl) (hrt : (∃ n, rt = .object n) ∨ ∃ t, rt = .array t := by exact Or.inl ⟨_, rfl⟩) : V l K M fr lo bc bs pc lv [vR x] n τ σ Q := by
  intro p e R s m args below meth cd H locs cells slots ls F h1 h2 h3 h4 hR hS hl hg hG
  refine W.widen (k := R.cells) (n := R.slots) (by omega) (by omega) (vx_ret ?_)
  exact W.aret F.1 F.2.1 (F.2.2.2.1.trans hr) hrt (z_rv_or K x) (z_fin (p := p) (e := e) (R := R) (m := m) (below := below) (meth := meth) (cd := cd) (v := vR x) hR hS hq (by show 2 < 6; decide) (z_gR x)) hS.2.2 hd F.2.2.2.2.1
def z_wt (st : List z_V) : Nat := (st.map fun v => if v.1 = 1 then 2 else 1).sum
theorem z_wt_eq (K : z_K) (st : List z_V) : ((st.map (z_c K)).map fun v => v.category).sum = z_wt st := by
  unfold z_wt
  rw [List.map_map]
  congr 1
  apply List.map_congr_left
  intro v _
  exact z_c_cat K v
theorem V_obj {idx : Nat} {k : Int} (hd : decode M.2.1 pc = .ok (.invokespecial idx, 3)) (hw : Cond.methodLink M.1.cls idx objectInit ∈ z_tbl) (h7 : Cond.instanceMethod objectInit ∈ z_tbl) (h8 : Cond.code objectInit ⟨#[0xb1]⟩ 1 none ∈ z_tbl) (h5 : 1 ≤ k) (hf : 1 ≤ fr) (hlo : z_wt st + 12 ≤ lo) (kk : V l K M fr lo bc bs (pc + 3) lv st n τ σ Q) : V l K M fr lo bc bs pc lv (vR k :: st) n τ σ Q := by
  intro p e R s m args below meth cd H locs cells slots ls F h1 h2 h3 h4 hR hS hl hg hG
  have kk := kk p e R s m args below meth cd H locs cells slots ls F h1 h2 h3 h4 hR hS hl hg (z_gt hG)
  rw [List.map_cons]
  show W p l e R s m args below meth cd H locs cells slots _ (F0 m pc ls (z_rv K k :: _))
  rw [z_rv_pos h5]
  have hw9 := z_wt_eq K st
  refine W.objInit F.1 F.2.1 F.2.2.2.2.2.1 (F.2.2.2.2.2.2.1 _ hw) (F.2.2.2.2.2.2.1 _ h7) (F.2.2.2.2.2.2.1 _ h8) rfl (hl.1.trans F.2.2.1.symm) rfl hd (by omega) (by rw [hw9]; show 2 * 0 + _ + 12 ≤ _; omega) kk
end ZN
