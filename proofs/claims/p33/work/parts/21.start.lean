/-! the law up to its loop (by program) -/
def z_sA : z_M := (z_up (z_up (z_up (z_up (z_up (z_up (z_up (z_up (z_up (z_up (fun _ _ => 0) 1 13 (-1)) 3 0 120) 3 1 2) 3 2 3) 3 3 0) 3 4 0) 3 5 1) 3 6 0) 3 7 0) 3 8 4)
def z_s0 : z_M := (z_up (z_up (z_up (z_up (z_up (z_up (z_up (z_up (z_up (z_up (z_up (z_up (z_up (z_up (z_up (z_up (z_up (z_up (z_up (z_up (z_up (z_up (z_up (z_up (z_up (z_up (z_up (z_up z_sA 309 5 (-1)) 312 0 120) 312 1 2) 312 2 3) 312 3 0) 312 4 0) 312 5 1) 312 6 0) 312 7 0) 312 8 4) 313 0 12) 313 1 0) 313 2 0) 313 3 0) 313 4 0) 313 5 0) 313 6 0) 313 7 0) 313 8 0) 314 0 999) 314 1 4) 314 2 6) 314 3 1) 314 4 1) 314 5 1) 314 6 1) 314 7 99) 314 8 12)
theorem z_zsI (L : List (Int × Int × Int)) (n : Nat) (σ : z_M) (h : z_zs σ n) (hL : ∀ q ∈ L, q.1 ≤ (n : Int)) : z_zs (L.foldl (fun σ q => z_up σ q.1 q.2.1 q.2.2) σ) n := by
  induction L generalizing σ with
  | nil => exact h
  | cons q L ih => exact ih _ (h.up (hL q (List.mem_cons_self ..))) (fun r hr => hL r (List.mem_cons_of_mem _ hr))
theorem z_sX11_zs : z_zs z_sA 308 := z_zsI [(1, 13, (-1)), (3, 0, 120), (3, 1, 2), (3, 2, 3), (3, 3, 0), (3, 4, 0), (3, 5, 1), (3, 6, 0), (3, 7, 0), (3, 8, 4)] 308 (fun _ _ => 0) (fun _ _ => rfl) (by decide)
theorem z_sX12_zs : z_zs z_s0 7657 := z_zsI [(309, 5, (-1)), (312, 0, 120), (312, 1, 2), (312, 2, 3), (312, 3, 0), (312, 4, 0), (312, 5, 1), (312, 6, 0), (312, 7, 0), (312, 8, 4), (313, 0, 12), (313, 1, 0), (313, 2, 0), (313, 3, 0), (313, 4, 0), (313, 5, 0), (313, 6, 0), (313, 7, 0), (313, 8, 0), (314, 0, 999), (314, 1, 4), (314, 2, 6), (314, 3, 1), (314, 4, 1), (314, 5, 1), (314, 6, 1), (314, 7, 99), (314, 8, 12)] 7657 z_sA (z_sX11_zs.mono (by decide)) (by decide)
theorem z_pd0 : z_pd [] = z_gr := funext fun a => funext fun b => by
  show (if (0 : Nat).testBit b.toNat then 0 else z_gr a b) = _
  rw [Nat.zero_testBit]; rfl
theorem law_start {l : Launch} {K : z_K} (hst : l.stackTraces = false) {bc bs : Nat} {Q : z_Q} (kk : V l K mL_law 15 590 bc bs 23 [vA K.2.2.2.2.2.1, vR 1, vR 309, vR 7658, vI 0, vU, vU, vU] [] z_NC z_gr z_s0 Q) : V l K mL_law 15 590 (bc + 7658) (bs + 194553) 0 [vA K.2.2.2.2.2.1, vU, vU, vU, vU, vU, vU, vU] [] 0 z_gr (fun _ _ => 0) Q := by
  have hz : z_zs (fun _ _ => 0) 0 := fun _ _ => rfl
  rw [← z_pd0] at kk ⊢
  refine P_new (k := 1) (mk := 4095) (bc2 := bc + 7657) (bs2 := bs + 194534) (n2 := 1) (pc := 0) dL_law_0 z_CLX11 z_wL_8 z_inX11 z_itX11 (by decide +kernel) rfl rfl (by decide +kernel) (by omega) (hz.mono (m := 0) (Nat.le_of_ble_eq_true rfl)) (z_mk (by decide) (by decide +kernel)) ?_
  refine V_dup (a := vR 1) (pc := 3) dL_law_3 ?_ (by decide)
  refine P_callI (as := []) (st := [vR 1]) (k := 1) (bc2 := bc + 7350) (bs2 := bs + 134340) (pc := 4) dL_law_4 z_mX11_init z_iX11_init z_wL_100 (i_X11_1 (σ := fun _ _ => 0) hst (hz.mono (m := 1) (Nat.le_of_ble_eq_true rfl))) rfl (by decide) ⟨(Nat.le_of_ble_eq_true rfl), (Nat.le_of_ble_eq_true rfl), (by omega), (by omega), (Nat.le_of_ble_eq_true rfl)⟩ ?_
  have hz1 := z_sX11_zs
  refine V_astore_n (v := vR 1) (lv' := [vA K.2.2.2.2.2.1, vR 1, vU, vU, vU, vU, vU, vU]) (pc := 7) dL_law_7 rfl ?_ (Or.inl rfl) (by decide)
  refine P_new (k := 309) (mk := 146132773392924278530) (bc2 := bc + 7349) (bs2 := bs + 134273) (n2 := 309) (pc := 8) dL_law_8 z_CLX12 z_wL_101 z_inX12 z_itX12 (by decide +kernel) rfl rfl (by decide +kernel) (by omega) (hz1.mono (m := 308) (Nat.le_of_ble_eq_true rfl)) (z_mk (by decide) (by decide +kernel)) ?_
  refine V_dup (a := vR 309) (pc := 11) dL_law_11 ?_ (by decide)
  refine P_callI (as := []) (st := [vR 309]) (k := 309) (bc2 := bc + 1) (bs2 := bs + 1) (pc := 12) dL_law_12 z_mX12_init z_iX12_init z_wL_103 (i_X12_309 (σ := z_sA) hst (hz1.mono (m := 309) (Nat.le_of_ble_eq_true rfl))) rfl (by decide) ⟨(Nat.le_of_ble_eq_true rfl), (Nat.le_of_ble_eq_true rfl), (by omega), (by omega), (Nat.le_of_ble_eq_true rfl)⟩ ?_
  have hz2 := z_sX12_zs
  refine V_astore_n (v := vR 309) (lv' := [vA K.2.2.2.2.2.1, vR 1, vR 309, vU, vU, vU, vU, vU]) (pc := 15) dL_law_15 rfl ?_ (Or.inl rfl) (by decide)
  refine V_iconst (x := 1) (pc := 16) dL_law_16 (by decide) ?_
  refine P_newa (k := 7658) (len := 1) (c := 101) (bc2 := bc + 0) (bs2 := bs + 0) (n2 := 7658) (ty := .long) (pc := 17) dL_law_17 z_arlong (by decide +kernel) rfl rfl (by decide +kernel) (by decide) (by omega) (hz2.mono (m := 7657) (Nat.le_of_ble_eq_true rfl)) rfl (Or.inr (Or.inl ⟨rfl, rfl⟩)) ?_
  refine V_astore_n (v := vR 7658) (lv' := [vA K.2.2.2.2.2.1, vR 1, vR 309, vR 7658, vU, vU, vU, vU]) (pc := 19) dL_law_19 rfl ?_ (Or.inl rfl) (by decide)
  refine V_iconst (x := 0) (pc := 20) dL_law_20 (by decide) ?_
  refine V_istore (x := 0) (lv' := [vA K.2.2.2.2.2.1, vR 1, vR 309, vR 7658, vI 0, vU, vU, vU]) (pc := 21) dL_law_21 rfl ?_ (by decide)
  exact kk
