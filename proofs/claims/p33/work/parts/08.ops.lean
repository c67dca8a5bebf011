/-! THE LAYER, 4: fields, arrays, new cells, answers -/
theorem z_one {D : va_G} {cl : List vw_C} {q : Nat × va_E} {H : Heap} (h : va_at D cl q H) : va_P D cl [q] H := fun k x hx => by
  match k, hx with
  | 0, hx => cases hx; exact h
  | k + 1, hx => simp at hx
theorem z_fs_get {K : z_K} {c j : Nat} {f g : Int → Int} (hj : j < z_nf c) : (z_fs K c f g)[j]? = some (z_c K (z_slot (z_ft c j) (f j) (g j))) := by
  unfold z_fs
  rw [List.getElem?_map, List.getElem?_range hj]
  rfl
theorem z_fs_len {K : z_K} {c : Nat} {f g : Int → Int} : (z_fs K c f g).length = z_nf c := by
  unfold z_fs
  rw [List.length_map, List.length_range]
theorem z_fs_set {K : z_K} {c j : Nat} {f g f' g' : Int → Int} {v : Value} (hj : j < z_nf c) (hv : z_c K (z_slot (z_ft c j) (f' j) (g' j)) = v) (hf : ∀ i : Int, i ≠ j → f' i = f i) (hg : ∀ i : Int, i ≠ j → g' i = g i) : (z_fs K c f g).set j v = z_fs K c f' g' := by
  apply List.ext_getElem?
  intro i
  by_cases hi : i < z_nf c
  · rw [z_fs_get hi, List.getElem?_set]
    by_cases e : j = i
    · subst e
      rw [if_pos rfl, if_pos (by rw [z_fs_len]; exact hj), hv]
    · rw [if_neg e, z_fs_get hi, hf i (by omega), hg i (by omega)]
  · rw [List.getElem?_eq_none (by rw [List.length_set, z_fs_len]; omega), List.getElem?_eq_none (by rw [z_fs_len]; omega)]
section ZO
variable {l : Launch} {K : z_K} {M : z_Me} {fr lo bc bs pc : Nat} {lv st : List z_V} {n : Nat} {τ σ : z_M} {Q : z_Q}
theorem V_getf {c j idx N : Nat} {C : String} {T : u_T} {ty : Nat → FieldType} {k : Int} {v : z_V} (hd : decode M.2.1 pc = .ok (.getfield idx, 3)) (hc : z_CL c C T N ty) (hj : j < N) (hw : Cond.fieldLink M.1.cls idx (T j).1 (T j).2.1 (T j).2.2.1 ∈ z_tbl) (h5 : 1 ≤ k) (h6 : k ≤ n) (hs : (z_sh k).1 = c)
    (hv : z_slot (z_ft c j) (σ k j) (τ k j) = v) (kk : z_g v → V l K M fr lo bc bs (pc + 3) lv (v :: st) n τ σ Q) : V l K M fr lo bc bs pc lv (vR k :: st) n τ σ Q := by
  intro p e R s m args below meth cd H locs cells slots ls F h1 h2 h3 h4 hR hS hl hg hG
  obtain ⟨a1, a2, a3, a4, a5, a6, a7⟩ := hc
  have hgv : z_g v := by
    rw [← hv]
    have h9 := hR.2.2.2 k j
    rw [if_neg (by rw [hs]; omega)] at h9
    by_cases e9 : z_ft c j = 2
    · rw [e9]; exact z_gR _
    · have : z_slot (z_ft c j) (σ k j) (τ k j) = vI (σ k j) := by
        unfold z_slot
        split
        · exact absurd (by assumption) e9
        · rfl
      rw [this]; exact z_gI h9
  have kk := kk hgv p e R s m args below meth cd H locs cells slots ls F h1 h2 h3 h4 hR hS hl hg (z_gc hgv (z_gt hG))
  have hP := z_one (z_at_obj hR h5 h6 hs a3)
  rw [List.map_cons]
  show W p l e R s m args below meth cd H locs cells slots _ (F0 m pc ls (z_rv K k :: _))
  rw [z_rv_pos h5]
  exact va_get F.1 F.2.1 F.2.2.2.2.2.2.1 a4 F.2.2.2.2.2.1 F.2.2.2.2.2.2.2.2.2.2.1 hP 0 rfl a1 j hj (F.2.2.2.2.2.2.1 _ hw) (fun _ h => h) (v := z_c K v) (by rw [z_fs_get (by omega), hv]) hd kk
/-- an int's field -/
theorem V_getI {c j idx N : Nat} {C : String} {T : u_T} {ty : Nat → FieldType} {k x : Int} (hd : decode M.2.1 pc = .ok (.getfield idx, 3)) (hc : z_CL c C T N ty) (hj : j < N) (hw : Cond.fieldLink M.1.cls idx (T j).1 (T j).2.1 (T j).2.2.1 ∈ z_tbl) (h7 : z_ft c j ≠ 2) (h5 : 1 ≤ k) (h6 : k ≤ n) (hs : (z_sh k).1 = c)
    (hv : σ k j = x) (kk : z_I x → V l K M fr lo bc bs (pc + 3) lv (vI x :: st) n τ σ Q) : V l K M fr lo bc bs pc lv (vR k :: st) n τ σ Q := by
  refine V_getf (v := vI x) hd hc hj hw h5 h6 hs ?_ (fun g => kk (g.1 rfl))
  unfold z_slot
  split
  · exact absurd (by assumption) h7
  · rw [hv]
theorem V_getR {c j idx N : Nat} {C : String} {T : u_T} {ty : Nat → FieldType} {k r : Int} (hd : decode M.2.1 pc = .ok (.getfield idx, 3)) (hc : z_CL c C T N ty) (hj : j < N) (hw : Cond.fieldLink M.1.cls idx (T j).1 (T j).2.1 (T j).2.2.1 ∈ z_tbl) (h7 : z_ft c j = 2) (h5 : 1 ≤ k) (h6 : k ≤ n) (hs : (z_sh k).1 = c)
    (hv : τ k j = r) (kk : V l K M fr lo bc bs (pc + 3) lv (vR r :: st) n τ σ Q) : V l K M fr lo bc bs pc lv (vR k :: st) n τ σ Q := by
  refine V_getf (v := vR r) hd hc hj hw h5 h6 hs ?_ (fun _ => kk)
  rw [h7, hv]
  rfl
theorem z_nar {code : Nat} {t : FieldType} {K : z_K} {x r : Int} (h : z_tyok code t = true) (hb : code = 3 → x = 0 ∨ x = 1) : narrow t (z_c K (z_slot code x r)) = z_c K (z_slot code x r) ∧ fits t (z_c K (z_slot code x r)) = true := by
  unfold z_tyok at h
  split at h
  · rcases z_rv_or K r with e | ⟨a, e⟩ <;> (show narrow t (z_rv K r) = z_rv K r ∧ fits t (z_rv K r) = true) <;> rw [e] <;> cases t <;> simp [FieldType.isReference] at h <;> exact ⟨rfl, rfl⟩
  · rcases hb rfl with e | e <;> rw [e]
    · exact (show narrow .boolean (.int (Int32.ofInt 0)) = .int (Int32.ofInt 0) ∧ fits .boolean (.int (Int32.ofInt 0)) = true from ⟨by decide, by decide⟩)
    · exact (show narrow .boolean (.int (Int32.ofInt 1)) = .int (Int32.ofInt 1) ∧ fits .boolean (.int (Int32.ofInt 1)) = true from ⟨by decide, by decide⟩)
  · exact ⟨rfl, rfl⟩
  · cases h
/-- a field that isn't final -/
theorem V_putI {c j idx N : Nat} {C : String} {T : u_T} {ty : Nat → FieldType} {k x : Int} (hd : decode M.2.1 pc = .ok (.putfield idx, 3)) (hc : z_CL c C T N ty) (hj : j < N) (hw : Cond.fieldLink M.1.cls idx (T j).1 (T j).2.1 (T j).2.2.1 ∈ z_tbl) (hfin : (T j).2.2.2 = false) (h7 : z_ft c j ≠ 2) (h5 : 1 ≤ k) (h6 : k ≤ n) (hs : (z_sh k).1 = c) (hb : z_ft c j = 3 → x = 0 ∨ x = 1)
    (kk : V l K M fr lo bc bs (pc + 3) lv st n τ (z_up σ k j x) Q) : V l K M fr lo bc bs pc lv (vI x :: vR k :: st) n τ σ Q := by
  intro p e R s m args below meth cd H locs cells slots ls F h1 h2 h3 h4 hR hS hl hg hG
  obtain ⟨a1, a2, a3, a4, a5, a6, a7⟩ := hc
  have hts := F.2.2.2.2.2.2.1
  have hK := F.2.2.2.2.2.2.2.2.2.2.1
  have hat := z_at_obj hR h5 h6 hs a3
  have hap := va_apart (own := M.1.cls) hts a4 ty a5 a6 hK a1
  obtain ⟨r, g1, cell, q1, q2, q3, q4⟩ := hat
  have hr : r = (C, T, N) := Option.some.inj (g1.symm.trans a1)
  subst hr
  obtain ⟨hSl, hfc, kC, hkC, hkind⟩ := hK.1 c _ a1
  obtain ⟨cf, kf, fi, f, hi, hsl⟩ := hSl j hj
  have hlay := hts _ (a4 _ (u_in_lay hj))
  unfold u_lay at hlay
  rw [if_neg (by rw [hfin]; decide)] at hlay
  have hst := (u_facts hfc hkC (u_lays hts a4 hj) hi).1
  have hslot : z_slot (z_ft c j) x 0 = vI x := by
    unfold z_slot
    split
    · exact absurd (by assumption) h7
    · rfl
  obtain ⟨hn, hfit⟩ := z_nar (K := K) (r := 0) (a7 j hj) hb
  rw [hslot] at hn hfit
  have h16 := u_store hfc hkC hkind hlay hi (a5 j hj) hn hfit
  rw [List.map_cons, List.map_cons]
  show W p l e R s m args below meth cd H locs cells slots _ (F0 m pc ls (.int (Int32.ofInt x) :: z_rv K k :: _))
  rw [z_rv_pos h5]
  refine W.putK F.1 F.2.1 (f := f) ⟨F.2.2.2.2.2.1, hts _ hw, ⟨_, _, _, hi⟩, hst⟩ (by rw [q2]; exact h16) q1 q3 (by rw [hsl]; exact k2_hasslot (q4 j hj)) rfl rfl hd fun H' e1 e2 e3 => ?_
  rw [hsl] at e1 ⊢
  have hlen : j < (z_fs K c (σ k) (τ k)).length := by rw [z_fs_len]; omega
  have hOB : va_at (K.2.1, K.2.2.1) vwCl (K.1 + k.toNat, .inr (c, (z_fs K c (σ k) (τ k)).set j (.int (Int32.ofInt x)))) H' := ⟨_, a1, t_OB.to (V := updV (vp_V (z_fs K c (σ k) (τ k))) j (.int (Int32.ofInt x))) ⟨_, e1, q2, q3, t_set q4 hap hj _⟩ (fun i _ => vp_updV_set hlen _ i)⟩
  rw [z_fs_set (f' := z_up σ k j x k) (g' := τ k) (by omega) (by
    have e9 : z_slot (z_ft c j) (z_up σ k j x k j) (τ k j) = vI x := by
      rw [z_up_s]
      unfold z_slot
      split
      · exact absurd (by assumption) h7
      · rfl
    rw [e9]; rfl) (fun i hi2 => z_up_j hi2) (fun _ _ => rfl)] at hOB
  have hR' : z_R K n τ (z_up σ k j x) H' := z_R_put hR h5 h6 e2 e3 (by
    unfold z_e
    rw [hs, if_pos a3]
    exact hOB) (fun a ha => z_up_row ha) (fun _ _ => rfl) (z_can_put hR.2.2.2 (by rw [if_neg (by rw [hs]; omega)]; exact z_hI hG))
  exact kk p e R s m args below meth cd H' _ cells slots ls F h1 h2 h3 h4 hR' (hS.put e2 e3 (by show K.1 < K.1 + k.toNat; omega)) hl hg (z_gt (z_gt hG))
/-- a final reference, in its constructor -/
theorem V_putR {c j idx N : Nat} {C : String} {T : u_T} {ty : Nat → FieldType} {k x : Int} (hd : decode M.2.1 pc = .ok (.putfield idx, 3)) (hc : z_CL c C T N ty) (hj : j < N) (hw : Cond.fieldLink M.1.cls idx (T j).1 (T j).2.1 (T j).2.2.1 ∈ z_tbl) (hfin : (T j).2.2.2 = true) (hin : M.1.name = "<init>") (hdecl : (T j).1 = M.1.cls) (h7 : z_ft c j = 2) (h5 : 1 ≤ k) (h6 : k ≤ n) (hs : (z_sh k).1 = c)
    (kk : V l K M fr lo bc bs (pc + 3) lv st n (z_up τ k j x) σ Q) : V l K M fr lo bc bs pc lv (vR x :: vR k :: st) n τ σ Q := by
  intro p e R s m args below meth cd H locs cells slots ls F h1 h2 h3 h4 hR hS hl hg hG
  obtain ⟨a1, a2, a3, a4, a5, a6, a7⟩ := hc
  have hts := F.2.2.2.2.2.2.1
  have hK := F.2.2.2.2.2.2.2.2.2.2.1
  have hat := z_at_obj hR h5 h6 hs a3
  have hap := va_apart (own := M.1.cls) hts a4 ty a5 a6 hK a1
  obtain ⟨r, g1, cell, q1, q2, q3, q4⟩ := hat
  have hr : r = (C, T, N) := Option.some.inj (g1.symm.trans a1)
  subst hr
  obtain ⟨hSl, hfc, kC, hkC, hkind⟩ := hK.1 c _ a1
  obtain ⟨cf, kf, fi, f, hi, hsl⟩ := hSl j hj
  have hlay := hts _ (a4 _ (u_in_lay hj))
  unfold u_lay at hlay
  rw [if_pos hfin] at hlay
  have hst := (u_facts hfc hkC (u_lays hts a4 hj) hi).1
  have hcf : m.cls = cf := by
    obtain ⟨_, _, c', _, _, _, -, -, hf', -, -, -, hown2, -⟩ := Cond.laysFinal_spec hlay
    have e1 : c' = cf := by have := hi.symm.trans hf'; simp at this; exact this.1.symm
    rw [hdecl] at hown2
    rw [← e1]; exact Option.some.inj (F.2.2.2.2.2.1.symm.trans hown2)
  obtain ⟨hn, hfit⟩ := z_nar (K := K) (x := 0) (r := x) (a7 j hj) (fun q => absurd q (by omega))
  rw [h7] at hn hfit
  have h16 := u_fits hfc hkC hkind (Or.inr hlay) hi (a5 j hj) hn hfit
  rw [List.map_cons, List.map_cons]
  show W p l e R s m args below meth cd H locs cells slots _ (F0 m pc ls (z_rv K x :: z_rv K k :: _))
  rw [z_rv_pos h5]
  refine W.putFinK F.1 F.2.1 F.2.2.2.2.2.1 (hts _ hw) hi hst hcf (F.2.2.2.2.2.2.2.2.1.trans hin) (by rw [q2]; exact h16) q1 q3 (by rw [hsl]; exact k2_hasslot (q4 j hj)) rfl rfl hd fun H' e1 e2 e3 => ?_
  rw [hsl] at e1 ⊢
  have hlen : j < (z_fs K c (σ k) (τ k)).length := by rw [z_fs_len]; omega
  have hOB : va_at (K.2.1, K.2.2.1) vwCl (K.1 + k.toNat, .inr (c, (z_fs K c (σ k) (τ k)).set j (z_rv K x))) H' := ⟨_, a1, t_OB.to (V := updV (vp_V (z_fs K c (σ k) (τ k))) j (z_rv K x)) ⟨_, e1, q2, q3, t_set q4 hap hj _⟩ (fun i _ => vp_updV_set hlen _ i)⟩
  rw [z_fs_set (f' := σ k) (g' := z_up τ k j x k) (by omega) (by rw [h7, z_up_s]; rfl) (fun _ _ => rfl) (fun i hi2 => z_up_j hi2)] at hOB
  have hR' : z_R K n (z_up τ k j x) σ H' := z_R_put hR h5 h6 e2 e3 (by
    unfold z_e
    rw [hs, if_pos a3]
    exact hOB) (fun _ _ => rfl) (fun a ha => z_up_row ha) hR.2.2.2
  exact kk p e R s m args below meth cd H' _ cells slots ls F h1 h2 h3 h4 hR' (hS.put e2 e3 (by show K.1 < K.1 + k.toNat; omega)) hl hg (z_gt (z_gt hG))
/-! arrays -/
theorem z_arrc {K : z_K} {n c : Nat} {τ σ : z_M} {H : Heap} {k : Int} (hR : z_R K n τ σ H) (h1 : 1 ≤ k) (h2 : k ≤ n) (hc : (z_sh k).1 = c) (hc1 : ¬ c < 100) : ∃ x : vp_A, H[K.1 + k.toNat]? = some (vp_cell (K.2.2.2.1 c) x) ∧ x = ((z_sh k).2, if c = 101 then .inr (.inl (fun j => Int64.ofInt (σ k j))) else if c < 103 then .inl (fun j => Int32.ofInt (σ k j)) else .inr (.inr (.inr (.inr (fun j => z_o K (τ k j)))))) := by
  obtain ⟨h, e⟩ := z_at_arr hR h1 h2 hc hc1
  rw [e] at h
  exact ⟨_, h, rfl⟩
theorem z_cellz {c : Nat} {K : z_K} {τ σ : z_M} {k : Int} (hc : (z_sh k).1 = c) (hc1 : ¬ c < 100) : z_e K k (σ k) (τ k) = .inl (K.2.2.2.1 c, (z_sh k).2, if c = 101 then .inr (.inl (fun j => Int64.ofInt (σ k j))) else if c < 103 then .inl (fun j => Int32.ofInt (σ k j)) else .inr (.inr (.inr (.inr (fun j => z_o K (τ k j)))))) := by
  unfold z_e
  rw [hc, if_neg hc1]
theorem V_iald {k i x : Int} (hd : decode M.2.1 pc = .ok (.iaload, 1)) (h5 : 1 ≤ k) (h6 : k ≤ n) (hs : (z_sh k).1 = 100) (h7 : 0 ≤ i) (h8 : i < (z_sh k).2) (hv : σ k i = x) (kk : z_I x → V l K M fr lo bc bs (pc + 1) lv (vI x :: st) n τ σ Q) : V l K M fr lo bc bs pc lv (vI i :: vR k :: st) n τ σ Q := by
  intro p e R s m args below meth cd H locs cells slots ls F h1 h2 h3 h4 hR hS hl hg hG
  subst hv
  have hx : z_I (σ k i) := by have h9 := hR.2.2.2 k i; rw [if_neg (by rw [hs]; decide)] at h9; exact h9
  have kk := kk hx p e R s m args below meth cd H locs cells slots ls F h1 h2 h3 h4 hR hS hl hg (z_gc (z_gI hx) (z_gt (z_gt hG)))
  obtain ⟨x, ha, rfl⟩ := z_arrc hR h5 h6 hs (by decide)
  rw [List.map_cons, List.map_cons]
  show W p l e R s m args below meth cd H locs cells slots _ (F0 m pc ls (.int (Int32.ofInt i) :: z_rv K k :: _))
  rw [z_rv_pos h5]
  have hi := z_hI hG
  refine va_iald F.1 F.2.1 F.2.2.2.2.2.2.2.2.2.2.1 (z_one (q := (K.1 + k.toNat, .inl (K.2.2.2.1 100, (z_sh k).2, .inl (fun j => Int32.ofInt (σ k j))))) ha) 0 0 rfl rfl (z_vpin h7 h8 hi) hd ?_
  rw [z_clamp h7 hi.2]
  have e9 : ((i.toNat : Nat) : Int) = i := by omega
  show W p l e R s m args below meth cd H locs cells slots _ (F0 m (pc + 1) ls (.int (Int32.ofInt (σ k (i.toNat : Nat))) :: _))
  rw [e9]
  exact kk
theorem V_zald {k i x : Int} (hd : decode M.2.1 pc = .ok (.baload, 1)) (h5 : 1 ≤ k) (h6 : k ≤ n) (hs : (z_sh k).1 = 102) (h7 : 0 ≤ i) (h8 : i < (z_sh k).2) (hv : σ k i = x) (kk : z_I x → V l K M fr lo bc bs (pc + 1) lv (vI x :: st) n τ σ Q) : V l K M fr lo bc bs pc lv (vI i :: vR k :: st) n τ σ Q := by
  intro p e R s m args below meth cd H locs cells slots ls F h1 h2 h3 h4 hR hS hl hg hG
  subst hv
  have hx : z_I (σ k i) := by have h9 := hR.2.2.2 k i; rw [if_neg (by rw [hs]; decide)] at h9; exact h9
  have kk := kk hx p e R s m args below meth cd H locs cells slots ls F h1 h2 h3 h4 hR hS hl hg (z_gc (z_gI hx) (z_gt (z_gt hG)))
  obtain ⟨x, ha, rfl⟩ := z_arrc hR h5 h6 hs (by decide)
  rw [List.map_cons, List.map_cons]
  show W p l e R s m args below meth cd H locs cells slots _ (F0 m pc ls (.int (Int32.ofInt i) :: z_rv K k :: _))
  rw [z_rv_pos h5]
  have hi := z_hI hG
  refine va_zald F.1 F.2.1 F.2.2.2.2.2.2.2.2.2.2.1 (z_one (q := (K.1 + k.toNat, .inl (K.2.2.2.1 102, (z_sh k).2, .inl (fun j => Int32.ofInt (σ k j))))) ha) 0 2 rfl rfl (z_vpin h7 h8 hi) hd ?_
  rw [z_clamp h7 hi.2]
  have e9 : ((i.toNat : Nat) : Int) = i := by omega
  show W p l e R s m args below meth cd H locs cells slots _ (F0 m (pc + 1) ls (.int (Int32.ofInt (σ k (i.toNat : Nat))) :: _))
  rw [e9]
  exact kk
theorem V_lald {k i x : Int} (hd : decode M.2.1 pc = .ok (.laload, 1)) (h5 : 1 ≤ k) (h6 : k ≤ n) (hs : (z_sh k).1 = 101) (h7 : 0 ≤ i) (h8 : i < (z_sh k).2) (hv : σ k i = x) (kk : z_L x → V l K M fr lo bc bs (pc + 1) lv (vL x :: st) n τ σ Q) : V l K M fr lo bc bs pc lv (vI i :: vR k :: st) n τ σ Q := by
  intro p e R s m args below meth cd H locs cells slots ls F h1 h2 h3 h4 hR hS hl hg hG
  subst hv
  have hx : z_L (σ k i) := by have h9 := hR.2.2.2 k i; rw [if_pos hs] at h9; exact h9
  have kk := kk hx p e R s m args below meth cd H locs cells slots ls F h1 h2 h3 h4 hR hS hl hg (z_gc (z_gL hx) (z_gt (z_gt hG)))
  obtain ⟨x, ha, rfl⟩ := z_arrc hR h5 h6 hs (by decide)
  rw [List.map_cons, List.map_cons]
  show W p l e R s m args below meth cd H locs cells slots _ (F0 m pc ls (.int (Int32.ofInt i) :: z_rv K k :: _))
  rw [z_rv_pos h5]
  have hi := z_hI hG
  refine va_lald F.1 F.2.1 F.2.2.2.2.2.2.2.2.2.2.1 (z_one (q := (K.1 + k.toNat, .inl (K.2.2.2.1 101, (z_sh k).2, .inr (.inl (fun j => Int64.ofInt (σ k j)))))) ha) 0 1 rfl rfl (z_vpin h7 h8 hi) hd ?_
  rw [z_clamp h7 hi.2]
  have e9 : ((i.toNat : Nat) : Int) = i := by omega
  show W p l e R s m args below meth cd H locs cells slots _ (F0 m (pc + 1) ls (.long (Int64.ofInt (σ k (i.toNat : Nat))) :: _))
  rw [e9]
  exact kk
theorem V_aald {c t0 : Nat} {ty : FieldType} {k i x : Int} (hd : decode M.2.1 pc = .ok (.aaload, 1)) (h5 : 1 ≤ k) (h6 : k ≤ n) (hs : (z_sh k).1 = c) (h7 : 0 ≤ i) (h8 : i < (z_sh k).2) (hv : τ k i = x) (kk : V l K M fr lo bc bs (pc + 1) lv (vR x :: st) n τ σ Q) (hc : 103 ≤ c := by decide) (ht : (z_tys K)[t0]? = some (K.2.2.2.1 c, ty) := by rfl) (hr : ty.isReference = true := by rfl) : V l K M fr lo bc bs pc lv (vI i :: vR k :: st) n τ σ Q := by
  intro p e R s m args below meth cd H locs cells slots ls F h1 h2 h3 h4 hR hS hl hg hG
  subst hv
  have kk := kk p e R s m args below meth cd H locs cells slots ls F h1 h2 h3 h4 hR hS hl hg (z_gc (z_gR _) (z_gt (z_gt hG)))
  obtain ⟨x, ha, rfl⟩ := z_arrc hR h5 h6 hs (by omega)
  rw [if_neg (show ¬ c = 101 by omega), if_neg (show ¬ c < 103 by omega), vp_cell_q] at ha
  rw [List.map_cons, List.map_cons]
  show W p l e R s m args below meth cd H locs cells slots _ (F0 m pc ls (.int (Int32.ofInt i) :: z_rv K k :: _))
  rw [z_rv_pos h5]
  have hi := z_hI hG
  have hin := z_vpin h7 h8 hi
  have e9 : ((i.toNat : Nat) : Int) = i := by omega
  refine W.aald (v := z_rv K (τ k i)) (ty := ty) F.1 F.2.1 ha ((F.2.2.2.2.2.2.2.2.2.2.1.2 t0 _ ht).1 _ _) hr (fun q => by cases q) (by rw [arrV_size]; exact hin) (by rw [arrV_read _ _ (by rw [z_clamp h7 hi.2]; omega), z_o_rf, z_clamp h7 hi.2, e9]) rfl rfl hd kk
theorem V_alen {c : Nat} {k x : Int} (hd : decode M.2.1 pc = .ok (.arraylength, 1)) (h5 : 1 ≤ k) (h6 : k ≤ n) (hs : (z_sh k).1 = c) (hv : (((z_sh k).2 : Nat) : Int) = x) (kk : V l K M fr lo bc bs (pc + 1) lv (vI x :: st) n τ σ Q) (hc : ¬ c < 100 := by decide) {t0 : Nat} {ty : FieldType} (ht : (z_tys K)[t0]? = some (K.2.2.2.1 c, ty) := by rfl) (hb : z_I x := by decide) : V l K M fr lo bc bs pc lv (vR k :: st) n τ σ Q := by
  intro p e R s m args below meth cd H locs cells slots ls F h1 h2 h3 h4 hR hS hl hg hG
  have kk := kk p e R s m args below meth cd H locs cells slots ls F h1 h2 h3 h4 hR hS hl hg (z_gc (z_gI hb) (z_gt hG))
  obtain ⟨y, ha, hy⟩ := z_arrc hR h5 h6 hs hc
  rw [List.map_cons]
  show W p l e R s m args below meth cd H locs cells slots _ (F0 m pc ls (z_rv K k :: _))
  rw [z_rv_pos h5]
  refine va_alen (v := Int32.ofInt x) F.1 F.2.1 F.2.2.2.2.2.2.2.2.2.2.1 (z_one (q := (K.1 + k.toNat, .inl (K.2.2.2.1 c, y))) ha) 0 t0 rfl ht ?_ hd kk
  rw [hy, ← hv]
  exact (Int32.ofInt_eq_ofNat).symm
theorem z_upd_i {σ : z_M} {k i x : Int} (h7 : 0 ≤ i) : (updV (fun j => Value.int (Int32.ofInt (σ k j))) i.toNat (.int (Int32.ofInt x))) = fun j : Nat => Value.int (Int32.ofInt (z_up σ k i x k j)) := by
  funext j
  by_cases e : j = i.toNat
  · have e2 : ((j : Nat) : Int) = i := by omega
    rw [e2, z_up_s]
    simp [updV, e]
  · rw [z_up_j (by omega)]
    simp [updV, e]
theorem z_upd_l {σ : z_M} {k i x : Int} (h7 : 0 ≤ i) : (updV (fun j => Value.long (Int64.ofInt (σ k j))) i.toNat (.long (Int64.ofInt x))) = fun j : Nat => Value.long (Int64.ofInt (z_up σ k i x k j)) := by
  funext j
  by_cases e : j = i.toNat
  · have e2 : ((j : Nat) : Int) = i := by omega
    rw [e2, z_up_s]
    simp [updV, e]
  · rw [z_up_j (by omega)]
    simp [updV, e]
theorem V_iast {k i x : Int} (hd : decode M.2.1 pc = .ok (.iastore, 1)) (h5 : 1 ≤ k) (h6 : k ≤ n) (hs : (z_sh k).1 = 100) (h7 : 0 ≤ i) (h8 : i < (z_sh k).2) (kk : V l K M fr lo bc bs (pc + 1) lv st n τ (z_up σ k i x) Q) : V l K M fr lo bc bs pc lv (vI x :: vI i :: vR k :: st) n τ σ Q := by
  intro p e R s m args below meth cd H locs cells slots ls F h1 h2 h3 h4 hR hS hl hg hG
  obtain ⟨y, ha, rfl⟩ := z_arrc hR h5 h6 hs (by decide)
  rw [if_neg (by decide), if_pos (by decide), vp_cell_i] at ha
  rw [List.map_cons, List.map_cons, List.map_cons]
  show W p l e R s m args below meth cd H locs cells slots _ (F0 m pc ls (.int (Int32.ofInt x) :: .int (Int32.ofInt i) :: z_rv K k :: _))
  rw [z_rv_pos h5]
  have hi := z_hI (z_gt hG)
  refine W.iast F.1 F.2.1 ha ((F.2.2.2.2.2.2.2.2.2.2.1.2 0 _ rfl).1 _ _) (fun q => by cases q) (by rw [arrV_size]; exact z_vpin h7 h8 hi) rfl rfl hd fun H1 e1 z1 o1 => ?_
  rw [z_clamp h7 hi.2, arrV_store, z_upd_i h7] at e1
  refine kk p e R s m args below meth cd H1 _ cells slots ls F h1 h2 h3 h4 (z_R_put hR h5 h6 z1 o1 ?_ (fun a ha => z_up_row ha) (fun _ _ => rfl) (z_can_put hR.2.2.2 (by rw [if_neg (by rw [hs]; decide)]; exact z_hI hG))) (hS.put z1 o1 (by show K.1 < K.1 + k.toNat; omega)) hl hg (z_gt (z_gt (z_gt hG)))
  rw [z_cellz hs (by decide), if_neg (by decide), if_pos (by decide)]
  show H1[K.1 + k.toNat]? = some (vp_cell _ _)
  rw [vp_cell_i]
  exact e1
theorem V_zast {k i x : Int} (hd : decode M.2.1 pc = .ok (.bastore, 1)) (h5 : 1 ≤ k) (h6 : k ≤ n) (hs : (z_sh k).1 = 102) (h7 : 0 ≤ i) (h8 : i < (z_sh k).2) (hb : x = 0 ∨ x = 1) (kk : V l K M fr lo bc bs (pc + 1) lv st n τ (z_up σ k i x) Q) : V l K M fr lo bc bs pc lv (vI x :: vI i :: vR k :: st) n τ σ Q := by
  intro p e R s m args below meth cd H locs cells slots ls F h1 h2 h3 h4 hR hS hl hg hG
  obtain ⟨y, ha, rfl⟩ := z_arrc hR h5 h6 hs (by decide)
  rw [if_neg (by decide), if_pos (by decide), vp_cell_i] at ha
  rw [List.map_cons, List.map_cons, List.map_cons]
  show W p l e R s m args below meth cd H locs cells slots _ (F0 m pc ls (.int (Int32.ofInt x) :: .int (Int32.ofInt i) :: z_rv K k :: _))
  rw [z_rv_pos h5]
  have hi := z_hI (z_gt hG)
  refine W.zast F.1 F.2.1 ha ((F.2.2.2.2.2.2.2.2.2.2.1.2 2 _ rfl).1 _ _) (fun q => by cases q) (by rw [arrV_size]; exact z_vpin h7 h8 hi) rfl rfl hd fun H1 e1 z1 o1 => ?_
  have hnr : narrow .boolean (.int (Int32.ofInt x)) = .int (Int32.ofInt x) := by rcases hb with h9 | h9 <;> rw [h9] <;> decide
  rw [hnr, z_clamp h7 hi.2, arrV_store, z_upd_i h7] at e1
  refine kk p e R s m args below meth cd H1 _ cells slots ls F h1 h2 h3 h4 (z_R_put hR h5 h6 z1 o1 ?_ (fun a ha => z_up_row ha) (fun _ _ => rfl) (z_can_put hR.2.2.2 (by rw [if_neg (by rw [hs]; decide)]; exact z_hI hG))) (hS.put z1 o1 (by show K.1 < K.1 + k.toNat; omega)) hl hg (z_gt (z_gt (z_gt hG)))
  rw [z_cellz hs (by decide), if_neg (by decide), if_pos (by decide)]
  show H1[K.1 + k.toNat]? = some (vp_cell _ _)
  rw [vp_cell_i]
  exact e1
theorem V_last {k i x : Int} (hd : decode M.2.1 pc = .ok (.lastore, 1)) (h5 : 1 ≤ k) (h6 : k ≤ n) (hs : (z_sh k).1 = 101) (h7 : 0 ≤ i) (h8 : i < (z_sh k).2) (kk : V l K M fr lo bc bs (pc + 1) lv st n τ (z_up σ k i x) Q) : V l K M fr lo bc bs pc lv (vL x :: vI i :: vR k :: st) n τ σ Q := by
  intro p e R s m args below meth cd H locs cells slots ls F h1 h2 h3 h4 hR hS hl hg hG
  obtain ⟨y, ha, rfl⟩ := z_arrc hR h5 h6 hs (by decide)
  rw [if_pos rfl, vp_cell_l] at ha
  rw [List.map_cons, List.map_cons, List.map_cons]
  show W p l e R s m args below meth cd H locs cells slots _ (F0 m pc ls (.long (Int64.ofInt x) :: .int (Int32.ofInt i) :: z_rv K k :: _))
  rw [z_rv_pos h5]
  have hi := z_hI (z_gt hG)
  refine W.last F.1 F.2.1 ha ((F.2.2.2.2.2.2.2.2.2.2.1.2 1 _ rfl).1 _ _) (fun q => by cases q) (by rw [arrV_size]; exact z_vpin h7 h8 hi) rfl rfl hd fun H1 e1 z1 o1 => ?_
  rw [z_clamp h7 hi.2, arrV_store, z_upd_l h7] at e1
  refine kk p e R s m args below meth cd H1 _ cells slots ls F h1 h2 h3 h4 (z_R_put hR h5 h6 z1 o1 ?_ (fun a ha => z_up_row ha) (fun _ _ => rfl) (z_can_put hR.2.2.2 (by rw [if_pos hs]; exact z_hL hG))) (hS.put z1 o1 (by show K.1 < K.1 + k.toNat; omega)) hl hg (z_gt (z_gt (z_gt hG)))
  rw [z_cellz hs (by decide), if_pos rfl]
  show H1[K.1 + k.toNat]? = some (vp_cell _ _)
  rw [vp_cell_l]
  exact e1
end ZO
