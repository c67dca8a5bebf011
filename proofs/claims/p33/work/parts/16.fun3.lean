/-! FUNCTIONS, further (by program) -/
def fX6_step (fu : Nat) (s : z_M) (a0 : Int) (a1 : Int) : z_O := if z_ob a0 6 then z_let (s a0 1) (fun x1 => if x1 = (0 : Int) then (if z_ob a0 6 then z_bI (fX6_stepOutside fu s a0 a1) (fun x3 s2 => some (vI x3, s2)) else none) else (if x1 = (1 : Int) then (if z_ob a0 6 then z_bI (fX6_stepBaseDue fu s a0 a1) (fun x5 s4 => some (vI x5, s4)) else none) else (if x1 = (2 : Int) then (if z_ob a0 6 then z_bI (fX6_stepInBase fu s a0 a1) (fun x7 s6 => some (vI x7, s6)) else none) else (if z_ob a0 6 then z_bI (fX6_stepInReading fu s a0 a1) (fun x9 s8 => some (vI x9, s8)) else none)))) else none
theorem gX6_step {l : Launch} {K : z_K} (hst : l.stackTraces = false) (fu : Nat) (s : z_M) (a0 : Int) (a1 : Int) : z_D l K mX6_step 4 92 0 0 [vR a0, vI a1] s (fX6_step fu s a0 a1) := by
  refine z_D_of (lv := [vR a0, vI a1]) hst z_mX6_step rfl ?_ (Nat.le_of_ble_eq_true rfl) rfl
  unfold fX6_step
  refine G_aload_n (x := a0) (pc := 0) dX6_step_0 rfl ?_
  refine G_getI (j := 1) (pc := 1) dX6_step_1 rfl z_CLX6 (by decide) z_wX6_15 (by decide) (fun x1 => ?_)
  refine G_ite (fun h0 => ?_) (fun h0 => ?_)
  · refine G_tableIn (off := 28) (tgt := 32) (pc := 4) dX6_step_4 (by omega) (by rw [h0]; rfl) (by decide) ?_
    refine G_aload_n (x := a0) (pc := 32) dX6_step_32 rfl ?_
    refine G_iload_n (x := a1) (pc := 33) dX6_step_33 rfl ?_
    refine G_callVI (as := [vI a1]) (st := []) (c := 6) (bc2 := 0) (bs2 := 0) (pc := 34) dX6_step_34 z_mX6_stepOutside z_vX6_stepOutside z_wX6_31 (gX6_stepOutside hst fu s a0 a1) rfl rfl (by decide) rfl rfl ⟨by decide, by decide, by decide, by decide, Nat.le_of_ble_eq_true rfl⟩ rfl (fun x3 s2 => ?_)
    exact G_iret (pc := 37) dX6_step_37
  · refine G_ite (fun h1 => ?_) (fun h1 => ?_)
    · refine G_tableIn (off := 34) (tgt := 38) (pc := 4) dX6_step_4 (by omega) (by rw [h1]; rfl) (by decide) ?_
      refine G_aload_n (x := a0) (pc := 38) dX6_step_38 rfl ?_
      refine G_iload_n (x := a1) (pc := 39) dX6_step_39 rfl ?_
      refine G_callVI (as := [vI a1]) (st := []) (c := 6) (bc2 := 0) (bs2 := 0) (pc := 40) dX6_step_40 z_mX6_stepBaseDue z_vX6_stepBaseDue z_wX6_34 (gX6_stepBaseDue hst fu s a0 a1) rfl rfl (by decide) rfl rfl ⟨by decide, by decide, by decide, by decide, Nat.le_of_ble_eq_true rfl⟩ rfl (fun x5 s4 => ?_)
      exact G_iret (pc := 43) dX6_step_43
    · refine G_ite (fun h2 => ?_) (fun h2 => ?_)
      · refine G_tableIn (off := 40) (tgt := 44) (pc := 4) dX6_step_4 (by omega) (by rw [h2]; rfl) (by decide) ?_
        refine G_aload_n (x := a0) (pc := 44) dX6_step_44 rfl ?_
        refine G_iload_n (x := a1) (pc := 45) dX6_step_45 rfl ?_
        refine G_callVI (as := [vI a1]) (st := []) (c := 6) (bc2 := 0) (bs2 := 0) (pc := 46) dX6_step_46 z_mX6_stepInBase z_vX6_stepInBase z_wX6_37 (gX6_stepInBase hst fu s a0 a1) rfl rfl (by decide) rfl rfl ⟨by decide, by decide, by decide, by decide, Nat.le_of_ble_eq_true rfl⟩ rfl (fun x7 s6 => ?_)
        exact G_iret (pc := 49) dX6_step_49
      · refine G_tableOut (tgt := 50) (pc := 4) dX6_step_4 (by omega) ?_
        refine G_aload_n (x := a0) (pc := 50) dX6_step_50 rfl ?_
        refine G_iload_n (x := a1) (pc := 51) dX6_step_51 rfl ?_
        refine G_callVI (as := [vI a1]) (st := []) (c := 6) (bc2 := 0) (bs2 := 0) (pc := 52) dX6_step_52 z_mX6_stepInReading z_vX6_stepInReading z_wX6_40 (gX6_stepInReading hst fu s a0 a1) rfl rfl (by decide) rfl rfl ⟨by decide, by decide, by decide, by decide, Nat.le_of_ble_eq_true rfl⟩ rfl (fun x9 s8 => ?_)
        exact G_iret (pc := 55) dX6_step_55
def fX6_read_L10 (fu : Nat) (a0 : Int) (a1 : Int) (a2 : Int) : Nat → z_M → (z_M → z_O) → z_O
  | 0, _, _ => none
  | F + 1, s, k => if z_ob a0 6 then z_let (s a0 7) (fun x3 => if (a2 : Int) ≤ x3 then (k s) else (if z_ob a0 6 then z_let (s a0 7) (fun x4 => if z_ob a1 7 then z_bI (fX7_get fu s a1 x4) (fun x6 s5 => if z_ob a0 6 then z_bI (fX6_step fu s5 a0 x6) (fun x8 s7 => if (x8 : Int) = 0 then (if z_ob a0 6 then z_let (s7 a0 7) (fun x9 => z_let (z_w (x9 + 1)) (fun x10 => if z_ob a0 6 then z_let (z_up s7 a0 7 x10) (fun s11 => fX6_read_L10 fu a0 a1 a2 F s11 k) else none)) else none) else (some (vI x8, s7))) else none) else none) else none)) else none
theorem gX6_read_L10 {l : Launch} {K : z_K} (hst : l.stackTraces = false) (fu : Nat) (a0 : Int) (a1 : Int) (a2 : Int) (k : z_M → z_O) (hk : ∀ (s : z_M), G l K mX6_read 5 113 0 0 50 [vR a0, vU, vU, vU] [] s (k s)) : ∀ (F : Nat) (s : z_M), G l K mX6_read 5 113 0 0 10 [vR a0, vR a1, vI a2, vU] [] s (fX6_read_L10 fu a0 a1 a2 F s k) := by
  intro F
  induction F with
  | zero => exact fun s h => absurd rfl h
  | succ F ih =>
    intro s
    rw [fX6_read_L10]
    refine G_aload_n (x := a0) (pc := 10) dX6_read_10 rfl ?_
    refine G_getI (j := 7) (pc := 11) dX6_read_11 rfl z_CLX6 (by decide) z_wX6_19 (by decide) (fun x3 => ?_)
    refine G_iload_n (x := a2) (pc := 14) dX6_read_14 rfl ?_
    refine G_icmp_ge (tgt := 50) (pc := 15) dX6_read_15 ?_ ?_
    · refine G_fg (lv2 := [vR a0, vU, vU, vU]) ⟨Or.inr rfl, Or.inl rfl, Or.inl rfl, Or.inl rfl, trivial⟩ ?_
      exact hk s
    · refine G_aload_n (x := a0) (pc := 18) dX6_read_18 rfl ?_
      refine G_aload_n (x := a1) (pc := 19) dX6_read_19 rfl ?_
      refine G_aload_n (x := a0) (pc := 20) dX6_read_20 rfl ?_
      refine G_getI (j := 7) (pc := 21) dX6_read_21 rfl z_CLX6 (by decide) z_wX6_19 (by decide) (fun x4 => ?_)
      refine G_callVI (as := [vI x4]) (st := [vR a0]) (c := 7) (bc2 := 0) (bs2 := 0) (pc := 24) dX6_read_24 z_mX7_get z_vX7_get z_wX6_22 (gX7_get hst fu s a1 x4) rfl rfl (by decide) rfl rfl ⟨by decide, by decide, by decide, by decide, Nat.le_of_ble_eq_true rfl⟩ rfl (fun x6 s5 => ?_)
      refine G_callVI (as := [vI x6]) (st := []) (c := 6) (bc2 := 0) (bs2 := 0) (pc := 27) dX6_read_27 z_mX6_step z_vX6_step z_wX6_28 (gX6_step hst fu s5 a0 x6) rfl rfl (by decide) rfl rfl ⟨by decide, by decide, by decide, by decide, Nat.le_of_ble_eq_true rfl⟩ rfl (fun x8 s7 => ?_)
      refine G_istore_n (lv' := [vR a0, vR a1, vI a2, vI x8]) (pc := 30) dX6_read_30 rfl ?_
      refine G_iload_n (x := x8) (pc := 31) dX6_read_31 rfl ?_
      refine G_if_eq (tgt := 37) (pc := 32) dX6_read_32 ?_ ?_
      · refine G_aload_n (x := a0) (pc := 37) dX6_read_37 rfl ?_
        refine G_dupR (pc := 38) dX6_read_38 ?_
        refine G_getI (j := 7) (pc := 39) dX6_read_39 rfl z_CLX6 (by decide) z_wX6_19 (by decide) (fun x9 => ?_)
        refine G_iconst (pc := 42) dX6_read_42 ?_
        refine G_iadd (pc := 43) dX6_read_43 (fun x10 => ?_)
        refine G_putI (j := 7) (pc := 44) dX6_read_44 rfl z_CLX6 (by decide) z_wX6_19 rfl (by decide) (by decide) (fun s11 => ?_)
        refine G_goto (tgt := 10) (pc := 47) dX6_read_47 ?_
        refine G_fg (lv2 := [vR a0, vR a1, vI a2, vU]) ⟨Or.inr rfl, Or.inr rfl, Or.inr rfl, Or.inl rfl, trivial⟩ ?_
        exact ih s11
      · refine G_iload_n (x := x8) (pc := 35) dX6_read_35 rfl ?_
        exact G_iret (pc := 36) dX6_read_36
def fX6_read_J62 (fu : Nat) (s : z_M) (t0 : Int) : z_O := some (vI t0, s)
theorem gX6_read_J62 {l : Launch} {K : z_K} (hst : l.stackTraces = false) (fu : Nat) (s : z_M) (t0 : Int) : G l K mX6_read 5 113 0 0 62 [vU, vU, vU, vU] [vI t0] s (fX6_read_J62 fu s t0) := by
  unfold fX6_read_J62
  exact G_iret (pc := 62) dX6_read_62
def fX6_read (fu : Nat) (s : z_M) (a0 : Int) (a1 : Int) (a2 : Int) : z_O := if z_ob a0 6 then z_let (z_up s a0 1 0) (fun s1 => if z_ob a0 6 then z_let (z_up s1 a0 7 0) (fun s2 => fX6_read_L10 fu a0 a1 a2 fu s2 (fun s12 => if z_ob a0 6 then z_let (s12 a0 1) (fun x13 => if (x13 : Int) ≠ 0 then (fX6_read_J62 fu s12 1) else (fX6_read_J62 fu s12 0)) else none)) else none) else none
theorem gX6_read {l : Launch} {K : z_K} (hst : l.stackTraces = false) (fu : Nat) (s : z_M) (a0 : Int) (a1 : Int) (a2 : Int) : z_D l K mX6_read 5 113 0 0 [vR a0, vR a1, vI a2] s (fX6_read fu s a0 a1 a2) := by
  refine z_D_of (lv := [vR a0, vR a1, vI a2, vU]) hst z_mX6_read rfl ?_ (Nat.le_of_ble_eq_true rfl) rfl
  unfold fX6_read
  refine G_aload_n (x := a0) (pc := 0) dX6_read_0 rfl ?_
  refine G_iconst (pc := 1) dX6_read_1 ?_
  refine G_putI (j := 1) (pc := 2) dX6_read_2 rfl z_CLX6 (by decide) z_wX6_15 rfl (by decide) (by decide) (fun s1 => ?_)
  refine G_aload_n (x := a0) (pc := 5) dX6_read_5 rfl ?_
  refine G_iconst (pc := 6) dX6_read_6 ?_
  refine G_putI (j := 7) (pc := 7) dX6_read_7 rfl z_CLX6 (by decide) z_wX6_19 rfl (by decide) (by decide) (fun s2 => ?_)
  refine gX6_read_L10 hst fu a0 a1 a2 _ (fun s12 => ?_) fu s2
  refine G_aload_n (x := a0) (pc := 50) dX6_read_50 rfl ?_
  refine G_getI (j := 1) (pc := 51) dX6_read_51 rfl z_CLX6 (by decide) z_wX6_15 (by decide) (fun x13 => ?_)
  refine G_if_ne (tgt := 61) (pc := 54) dX6_read_54 ?_ ?_
  · refine G_iconst (pc := 61) dX6_read_61 ?_
    refine G_fg (lv2 := [vU, vU, vU, vU]) ⟨Or.inl rfl, Or.inl rfl, Or.inl rfl, Or.inl rfl, trivial⟩ ?_
    exact gX6_read_J62 hst fu s12 1
  · refine G_iconst (pc := 57) dX6_read_57 ?_
    refine G_goto (tgt := 62) (pc := 58) dX6_read_58 ?_
    refine G_fg (lv2 := [vU, vU, vU, vU]) ⟨Or.inl rfl, Or.inl rfl, Or.inl rfl, Or.inl rfl, trivial⟩ ?_
    exact gX6_read_J62 hst fu s12 0
def fX2_keep_J36 (fu : Nat) (s : z_M) (a0 : Int) (t0 : Int) (t1 : Int) : z_O := if z_ob t0 2 then z_let (z_up s t0 1 t1) (fun s6 => if z_ob a0 2 then z_let (s6 a0 2) (fun x7 => z_let (z_w (x7 + 1)) (fun x8 => z_let (z_min x8 12) (fun x9 => if z_ob a0 2 then z_let (z_up s6 a0 2 x9) (fun s10 => some (vN, s10)) else none))) else none) else none
theorem gX2_keep_J36 {l : Launch} {K : z_K} (hst : l.stackTraces = false) (fu : Nat) (s : z_M) (a0 : Int) (t0 : Int) (t1 : Int) : G l K mX2_keep 3 67 0 0 36 [vR a0, vU, vU] [vI t1, vR t0] s (fX2_keep_J36 fu s a0 t0 t1) := by
  unfold fX2_keep_J36
  refine G_putI (j := 1) (pc := 36) dX2_keep_36 rfl z_CLX2 (by decide) z_wX2_18 rfl (by decide) (by decide) (fun s6 => ?_)
  refine G_aload_n (x := a0) (pc := 39) dX2_keep_39 rfl ?_
  refine G_aload_n (x := a0) (pc := 40) dX2_keep_40 rfl ?_
  refine G_getI (j := 2) (pc := 41) dX2_keep_41 rfl z_CLX2 (by decide) z_wX2_30 (by decide) (fun x7 => ?_)
  refine G_iconst (pc := 44) dX2_keep_44 ?_
  refine G_iadd (pc := 45) dX2_keep_45 (fun x8 => ?_)
  refine G_bipush (pc := 46) dX2_keep_46 ?_
  refine G_mmin (pc := 48) dX2_keep_48 z_wX2_33 (fun x9 => ?_) (Nat.le_of_ble_eq_true rfl)
  refine G_putI (j := 2) (pc := 51) dX2_keep_51 rfl z_CLX2 (by decide) z_wX2_30 rfl (by decide) (by decide) (fun s10 => ?_)
  exact G_vret (pc := 54) dX2_keep_54
def fX2_keep (fu : Nat) (s : z_M) (a0 : Int) (a1 : Int) : z_O := if z_ob a0 2 then z_bR (fX2_place fu s a0) (fun x2 s1 => if 1 ≤ x2 then if z_ob x2 9 then z_bN (fX9_copyFrom fu s1 x2 a1) (fun s3 => if z_ob a0 2 then z_let (s3 a0 1) (fun x4 => z_let (z_w (x4 + 1)) (fun x5 => if (12 : Int) ≤ x5 then (fX2_keep_J36 fu s3 a0 a0 0) else (if z_ob a0 2 then z_let (s3 a0 1) (fun x11 => z_let (z_w (x11 + 1)) (fun x12 => fX2_keep_J36 fu s3 a0 a0 x12)) else none))) else none) else none else none) else none
theorem gX2_keep {l : Launch} {K : z_K} (hst : l.stackTraces = false) (fu : Nat) (s : z_M) (a0 : Int) (a1 : Int) : z_D l K mX2_keep 3 67 0 0 [vR a0, vR a1] s (fX2_keep fu s a0 a1) := by
  refine z_D_of (lv := [vR a0, vR a1, vU]) hst z_mX2_keep rfl ?_ (Nat.le_of_ble_eq_true rfl) rfl
  unfold fX2_keep
  refine G_aload_n (x := a0) (pc := 0) dX2_keep_0 rfl ?_
  refine G_callVR (as := []) (st := []) (c := 2) (bc2 := 0) (bs2 := 0) (pc := 1) dX2_keep_1 z_mX2_place z_vX2_place z_wX2_22 (gX2_place hst fu s a0) rfl rfl (by decide) rfl rfl ⟨by decide, by decide, by decide, by decide, Nat.le_of_ble_eq_true rfl⟩ rfl (fun x2 s1 => ?_)
  refine G_astore_n (lv' := [vR a0, vR a1, vR x2]) (pc := 4) dX2_keep_4 rfl ?_
  refine G_aload_n (x := x2) (pc := 5) dX2_keep_5 rfl ?_
  refine G_ifnull (pc := 6) dX2_keep_6 ?_
  refine G_aload_n (x := x2) (pc := 9) dX2_keep_9 rfl ?_
  refine G_aload_n (x := a1) (pc := 10) dX2_keep_10 rfl ?_
  refine G_callVN (as := [vR a1]) (st := []) (c := 9) (bc2 := 0) (bs2 := 0) (pc := 11) dX2_keep_11 z_mX9_copyFrom z_vX9_copyFrom z_wX2_26 (gX9_copyFrom hst fu s1 x2 a1) rfl rfl (by decide) rfl rfl ⟨by decide, by decide, by decide, by decide, Nat.le_of_ble_eq_true rfl⟩ rfl (fun s3 => ?_)
  refine G_aload_n (x := a0) (pc := 14) dX2_keep_14 rfl ?_
  refine G_aload_n (x := a0) (pc := 15) dX2_keep_15 rfl ?_
  refine G_getI (j := 1) (pc := 16) dX2_keep_16 rfl z_CLX2 (by decide) z_wX2_18 (by decide) (fun x4 => ?_)
  refine G_iconst (pc := 19) dX2_keep_19 ?_
  refine G_iadd (pc := 20) dX2_keep_20 (fun x5 => ?_)
  refine G_bipush (pc := 21) dX2_keep_21 ?_
  refine G_icmp_ge (tgt := 35) (pc := 23) dX2_keep_23 ?_ ?_
  · refine G_iconst (pc := 35) dX2_keep_35 ?_
    refine G_fg (lv2 := [vR a0, vU, vU]) ⟨Or.inr rfl, Or.inl rfl, Or.inl rfl, trivial⟩ ?_
    exact gX2_keep_J36 hst fu s3 a0 a0 0
  · refine G_aload_n (x := a0) (pc := 26) dX2_keep_26 rfl ?_
    refine G_getI (j := 1) (pc := 27) dX2_keep_27 rfl z_CLX2 (by decide) z_wX2_18 (by decide) (fun x11 => ?_)
    refine G_iconst (pc := 30) dX2_keep_30 ?_
    refine G_iadd (pc := 31) dX2_keep_31 (fun x12 => ?_)
    refine G_goto (tgt := 36) (pc := 32) dX2_keep_32 ?_
    refine G_fg (lv2 := [vR a0, vU, vU]) ⟨Or.inr rfl, Or.inl rfl, Or.inl rfl, trivial⟩ ?_
    exact gX2_keep_J36 hst fu s3 a0 a0 x12
def fX11_readTape_J68 (fu : Nat) (s : z_M) (a2 : Int) : z_O := some (vI a2, s)
theorem gX11_readTape_J68 {l : Launch} {K : z_K} (hst : l.stackTraces = false) (fu : Nat) (s : z_M) (a2 : Int) : G l K mX11_readTape 6 136 0 0 68 [vU, vU, vI a2] [] s (fX11_readTape_J68 fu s a2) := by
  unfold fX11_readTape_J68
  refine G_iload_n (x := a2) (pc := 68) dX11_readTape_68 rfl ?_
  exact G_iret (pc := 69) dX11_readTape_69
def fX11_readTape_J29 (fu : Nat) (s : z_M) (a0 : Int) (a2 : Int) (t0 : Int) (t1 : Int) : z_O := if z_ob t0 11 then z_let (z_up s t0 13 t1) (fun s7 => if z_ob a0 11 then z_let (z_up s7 a0 12 0) (fun s8 => if (a2 : Int) ≠ 0 then (fX11_readTape_J68 fu s8 a2) else (if z_ob a0 11 then z_let (z_gr a0 5) (fun x9 => if z_ob a0 11 then z_let (z_gr a0 2) (fun x10 => if z_ob x9 2 then z_bN (fX2_keep fu s8 x9 x10) (fun s11 => if z_ob a0 11 then z_let (z_gr a0 2) (fun x12 => if z_ob a0 11 then z_let (z_gr a0 3) (fun x13 => if z_ob x12 9 then z_bN (fX9_copyFrom fu s11 x12 x13) (fun s14 => if z_ob a0 11 ∧ z_bl 0 then z_let (z_up s14 a0 16 0) (fun s15 => fX11_readTape_J68 fu s15 a2) else none) else none) else none) else none) else none) else none) else none)) else none) else none
theorem gX11_readTape_J29 {l : Launch} {K : z_K} (hst : l.stackTraces = false) (fu : Nat) (s : z_M) (a0 : Int) (a2 : Int) (t0 : Int) (t1 : Int) : G l K mX11_readTape 6 136 0 0 29 [vR a0, vU, vI a2] [vI t1, vR t0] s (fX11_readTape_J29 fu s a0 a2 t0 t1) := by
  unfold fX11_readTape_J29
  refine G_putI (j := 13) (pc := 29) dX11_readTape_29 rfl z_CLX11 (by decide) z_wX11_99 rfl (by decide) (by decide) (fun s7 => ?_)
  refine G_aload_n (x := a0) (pc := 32) dX11_readTape_32 rfl ?_
  refine G_iconst (pc := 33) dX11_readTape_33 ?_
  refine G_putI (j := 12) (pc := 34) dX11_readTape_34 rfl z_CLX11 (by decide) z_wX11_107 rfl (by decide) (by decide) (fun s8 => ?_)
  refine G_iload_n (x := a2) (pc := 37) dX11_readTape_37 rfl ?_
  refine G_if_ne (tgt := 68) (pc := 38) dX11_readTape_38 ?_ ?_
  · refine G_fg (lv2 := [vU, vU, vI a2]) ⟨Or.inl rfl, Or.inl rfl, Or.inr rfl, trivial⟩ ?_
    exact gX11_readTape_J68 hst fu s8 a2
  · refine G_aload_n (x := a0) (pc := 41) dX11_readTape_41 rfl ?_
    refine G_getR (j := 5) (pc := 42) dX11_readTape_42 rfl z_CLX11 (by decide) z_wX11_47 (by decide) (fun x9 => ?_)
    refine G_aload_n (x := a0) (pc := 45) dX11_readTape_45 rfl ?_
    refine G_getR (j := 2) (pc := 46) dX11_readTape_46 rfl z_CLX11 (by decide) z_wX11_28 (by decide) (fun x10 => ?_)
    refine G_callVN (as := [vR x10]) (st := []) (c := 2) (bc2 := 0) (bs2 := 0) (pc := 49) dX11_readTape_49 z_mX2_keep z_vX2_keep z_wX11_156 (gX2_keep hst fu s8 x9 x10) rfl rfl (by decide) rfl rfl ⟨by decide, by decide, by decide, by decide, Nat.le_of_ble_eq_true rfl⟩ rfl (fun s11 => ?_)
    refine G_aload_n (x := a0) (pc := 52) dX11_readTape_52 rfl ?_
    refine G_getR (j := 2) (pc := 53) dX11_readTape_53 rfl z_CLX11 (by decide) z_wX11_28 (by decide) (fun x12 => ?_)
    refine G_aload_n (x := a0) (pc := 56) dX11_readTape_56 rfl ?_
    refine G_getR (j := 3) (pc := 57) dX11_readTape_57 rfl z_CLX11 (by decide) z_wX11_32 (by decide) (fun x13 => ?_)
    refine G_callVN (as := [vR x13]) (st := []) (c := 9) (bc2 := 0) (bs2 := 0) (pc := 60) dX11_readTape_60 z_mX9_copyFrom z_vX9_copyFrom z_wX11_130 (gX9_copyFrom hst fu s11 x12 x13) rfl rfl (by decide) rfl rfl ⟨by decide, by decide, by decide, by decide, Nat.le_of_ble_eq_true rfl⟩ rfl (fun s14 => ?_)
    refine G_aload_n (x := a0) (pc := 63) dX11_readTape_63 rfl ?_
    refine G_iconst (pc := 64) dX11_readTape_64 ?_
    refine G_putZ (j := 16) (pc := 65) dX11_readTape_65 rfl z_CLX11 (by decide) z_wX11_150 rfl (by decide) (fun s15 => ?_)
    refine G_fg (lv2 := [vU, vU, vI a2]) ⟨Or.inl rfl, Or.inl rfl, Or.inr rfl, trivial⟩ ?_
    exact gX11_readTape_J68 hst fu s15 a2
def fX11_readTape (fu : Nat) (s : z_M) (a0 : Int) (a1 : Int) : z_O := if z_ob a0 11 then z_let (z_gr a0 4) (fun x1 => if z_ob a0 11 then z_let (z_gr a0 1) (fun x2 => if z_ob x1 6 then z_bI (fX6_read fu s x1 x2 a1) (fun x4 s3 => if (x4 : Int) ≠ 0 then (if z_ob a0 11 then z_let (z_gr a0 4) (fun x5 => if z_ob x5 6 then z_let (s3 x5 7) (fun x6 => fX11_readTape_J29 fu s3 a0 x4 a0 x6) else none) else none) else (fX11_readTape_J29 fu s3 a0 x4 a0 (-1))) else none) else none) else none
theorem gX11_readTape {l : Launch} {K : z_K} (hst : l.stackTraces = false) (fu : Nat) (s : z_M) (a0 : Int) (a1 : Int) : z_D l K mX11_readTape 6 136 0 0 [vR a0, vI a1] s (fX11_readTape fu s a0 a1) := by
  refine z_D_of (lv := [vR a0, vI a1, vU]) hst z_mX11_readTape rfl ?_ (Nat.le_of_ble_eq_true rfl) rfl
  unfold fX11_readTape
  refine G_aload_n (x := a0) (pc := 0) dX11_readTape_0 rfl ?_
  refine G_getR (j := 4) (pc := 1) dX11_readTape_1 rfl z_CLX11 (by decide) z_wX11_40 (by decide) (fun x1 => ?_)
  refine G_aload_n (x := a0) (pc := 4) dX11_readTape_4 rfl ?_
  refine G_getR (j := 1) (pc := 5) dX11_readTape_5 rfl z_CLX11 (by decide) z_wX11_22 (by decide) (fun x2 => ?_)
  refine G_iload_n (x := a1) (pc := 8) dX11_readTape_8 rfl ?_
  refine G_callVI (as := [vR x2, vI a1]) (st := []) (c := 6) (bc2 := 0) (bs2 := 0) (pc := 9) dX11_readTape_9 z_mX6_read z_vX6_read z_wX11_368 (gX6_read hst fu s x1 x2 a1) rfl rfl (by decide) rfl rfl ⟨by decide, by decide, by decide, by decide, Nat.le_of_ble_eq_true rfl⟩ rfl (fun x4 s3 => ?_)
  refine G_istore_n (lv' := [vR a0, vI a1, vI x4]) (pc := 12) dX11_readTape_12 rfl ?_
  refine G_aload_n (x := a0) (pc := 13) dX11_readTape_13 rfl ?_
  refine G_iload_n (x := x4) (pc := 14) dX11_readTape_14 rfl ?_
  refine G_if_ne (tgt := 22) (pc := 15) dX11_readTape_15 ?_ ?_
  · refine G_aload_n (x := a0) (pc := 22) dX11_readTape_22 rfl ?_
    refine G_getR (j := 4) (pc := 23) dX11_readTape_23 rfl z_CLX11 (by decide) z_wX11_40 (by decide) (fun x5 => ?_)
    refine G_getI (j := 7) (pc := 26) dX11_readTape_26 rfl z_CLX6 (by decide) z_wX11_372 (by decide) (fun x6 => ?_)
    refine G_fg (lv2 := [vR a0, vU, vI x4]) ⟨Or.inr rfl, Or.inl rfl, Or.inr rfl, trivial⟩ ?_
    exact gX11_readTape_J29 hst fu s3 a0 x4 a0 x6
  · refine G_iconst (pc := 18) dX11_readTape_18 ?_
    refine G_goto (tgt := 29) (pc := 19) dX11_readTape_19 ?_
    refine G_fg (lv2 := [vR a0, vU, vI x4]) ⟨Or.inr rfl, Or.inl rfl, Or.inr rfl, trivial⟩ ?_
    exact gX11_readTape_J29 hst fu s3 a0 x4 a0 (-1)
def fX11_text_J45 (fu : Nat) (s : z_M) (t0 : Int) : z_O := some (vI t0, s)
theorem gX11_text_J45 {l : Launch} {K : z_K} (hst : l.stackTraces = false) (fu : Nat) (s : z_M) (t0 : Int) : G l K mX11_text 7 172 0 0 45 [vU, vU, vU] [vI t0] s (fX11_text_J45 fu s t0) := by
  unfold fX11_text_J45
  exact G_iret (pc := 45) dX11_text_45
def fX11_text (fu : Nat) (s : z_M) (a0 : Int) (a1 : Int) : z_O := if z_ob a0 11 then z_let (s a0 12) (fun x1 => if z_ob a0 11 then z_bN (fX11_needWithin fu s a0 a1 0 x1) (fun s2 => if z_ob a0 11 then z_let (z_gr a0 3) (fun x3 => if z_ob x3 9 then z_bN (fX9_clear fu s2 x3) (fun s4 => if z_ob a0 11 then z_bI (fX11_readTape fu s4 a0 a1) (fun x6 s5 => if z_ob a0 11 then z_bN (fX11_refresh fu s5 a0) (fun s7 => if (x6 : Int) ≠ 0 then (z_let (z_w (x6 - 10)) (fun x8 => fX11_text_J45 fu s7 x8)) else (if z_ob a0 11 then z_let (z_gr a0 6) (fun x9 => if z_ob x9 10 then z_let (s7 x9 16) (fun x10 => fX11_text_J45 fu s7 x10) else none) else none)) else none) else none) else none) else none) else none) else none
theorem gX11_text {l : Launch} {K : z_K} (hst : l.stackTraces = false) (fu : Nat) (s : z_M) (a0 : Int) (a1 : Int) : z_D l K mX11_text 7 172 1 6 [vR a0, vI a1] s (fX11_text fu s a0 a1) := by
  refine z_D_of (lv := [vR a0, vI a1, vU]) hst z_mX11_text rfl ?_ (Nat.le_of_ble_eq_true rfl) rfl
  unfold fX11_text
  refine G_aload_n (x := a0) (pc := 0) dX11_text_0 rfl ?_
  refine G_iload_n (x := a1) (pc := 1) dX11_text_1 rfl ?_
  refine G_iconst (pc := 2) dX11_text_2 ?_
  refine G_aload_n (x := a0) (pc := 3) dX11_text_3 rfl ?_
  refine G_getI (j := 12) (pc := 4) dX11_text_4 rfl z_CLX11 (by decide) z_wX11_107 (by decide) (fun x1 => ?_)
  refine G_callVN (as := [vI a1, vI 0, vI x1]) (st := []) (c := 11) (bc2 := 0) (bs2 := 0) (pc := 7) dX11_text_7 z_mX11_needWithin z_vX11_needWithin z_wX11_113 (gX11_needWithin hst fu s a0 a1 0 x1) rfl rfl (by decide) rfl rfl ⟨by decide, by decide, by decide, by decide, Nat.le_of_ble_eq_true rfl⟩ rfl (fun s2 => ?_)
  refine G_aload_n (x := a0) (pc := 10) dX11_text_10 rfl ?_
  refine G_getR (j := 3) (pc := 11) dX11_text_11 rfl z_CLX11 (by decide) z_wX11_32 (by decide) (fun x3 => ?_)
  refine G_callVN (as := []) (st := []) (c := 9) (bc2 := 0) (bs2 := 0) (pc := 14) dX11_text_14 z_mX9_clear z_vX9_clear z_wX11_117 (gX9_clear hst fu s2 x3) rfl rfl (by decide) rfl rfl ⟨by decide, by decide, by decide, by decide, Nat.le_of_ble_eq_true rfl⟩ rfl (fun s4 => ?_)
  refine G_aload_n (x := a0) (pc := 17) dX11_text_17 rfl ?_
  refine G_iload_n (x := a1) (pc := 18) dX11_text_18 rfl ?_
  refine G_callVI (as := [vI a1]) (st := []) (c := 11) (bc2 := 0) (bs2 := 0) (pc := 19) dX11_text_19 z_mX11_readTape z_vX11_readTape z_wX11_120 (gX11_readTape hst fu s4 a0 a1) rfl rfl (by decide) rfl rfl ⟨by decide, by decide, by decide, by decide, Nat.le_of_ble_eq_true rfl⟩ rfl (fun x6 s5 => ?_)
  refine G_istore_n (lv' := [vR a0, vI a1, vI x6]) (pc := 22) dX11_text_22 rfl ?_
  refine G_aload_n (x := a0) (pc := 23) dX11_text_23 rfl ?_
  refine G_callVN (as := []) (st := []) (c := 11) (bc2 := 0) (bs2 := 0) (pc := 24) dX11_text_24 z_mX11_refresh z_vX11_refresh z_wX11_124 (gX11_refresh hst fu s5 a0) rfl rfl (by decide) rfl rfl ⟨by decide, by decide, by decide, by decide, Nat.le_of_ble_eq_true rfl⟩ rfl (fun s7 => ?_)
  refine G_iload_n (x := x6) (pc := 27) dX11_text_27 rfl ?_
  refine G_if_ne (tgt := 41) (pc := 28) dX11_text_28 ?_ ?_
  · refine G_iload_n (x := x6) (pc := 41) dX11_text_41 rfl ?_
    refine G_bipush (pc := 42) dX11_text_42 ?_
    refine G_isub (pc := 44) dX11_text_44 (fun x8 => ?_)
    refine G_fg (lv2 := [vU, vU, vU]) ⟨Or.inl rfl, Or.inl rfl, Or.inl rfl, trivial⟩ ?_
    exact gX11_text_J45 hst fu s7 x8
  · refine G_aload_n (x := a0) (pc := 31) dX11_text_31 rfl ?_
    refine G_getR (j := 6) (pc := 32) dX11_text_32 rfl z_CLX11 (by decide) z_wX11_56 (by decide) (fun x9 => ?_)
    refine G_getI (j := 16) (pc := 35) dX11_text_35 rfl z_CLX10 (by decide) z_wX11_127 (by decide) (fun x10 => ?_)
    refine G_goto (tgt := 45) (pc := 38) dX11_text_38 ?_
    refine G_fg (lv2 := [vU, vU, vU]) ⟨Or.inl rfl, Or.inl rfl, Or.inl rfl, trivial⟩ ?_
    exact gX11_text_J45 hst fu s7 x10
def fX11_more_J49 (fu : Nat) (s : z_M) (t0 : Int) : z_O := some (vI t0, s)
theorem gX11_more_J49 {l : Launch} {K : z_K} (hst : l.stackTraces = false) (fu : Nat) (s : z_M) (t0 : Int) : G l K mX11_more 7 172 0 0 49 [vU, vU, vU] [vI t0] s (fX11_more_J49 fu s t0) := by
  unfold fX11_more_J49
  exact G_iret (pc := 49) dX11_more_49
def fX11_more (fu : Nat) (s : z_M) (a0 : Int) (a1 : Int) : z_O := if z_ob a0 11 then z_let (s a0 12) (fun x1 => if z_ob a0 11 then z_bN (fX11_needWithin fu s a0 a1 0 x1) (fun s2 => if z_ob a0 11 then z_let (z_gr a0 3) (fun x3 => if z_ob a0 11 then z_let (z_gr a0 2) (fun x4 => if z_ob x3 9 then z_bN (fX9_copyFrom fu s2 x3 x4) (fun s5 => if z_ob a0 11 then z_bI (fX11_readTape fu s5 a0 a1) (fun x7 s6 => if z_ob a0 11 then z_bN (fX11_refresh fu s6 a0) (fun s8 => if (x7 : Int) ≠ 0 then (z_let (z_w (x7 - 10)) (fun x9 => fX11_more_J49 fu s8 x9)) else (if z_ob a0 11 then z_let (z_gr a0 6) (fun x10 => if z_ob x10 10 then z_let (s8 x10 16) (fun x11 => fX11_more_J49 fu s8 x11) else none) else none)) else none) else none) else none) else none) else none) else none) else none
theorem gX11_more {l : Launch} {K : z_K} (hst : l.stackTraces = false) (fu : Nat) (s : z_M) (a0 : Int) (a1 : Int) : z_D l K mX11_more 7 172 1 6 [vR a0, vI a1] s (fX11_more fu s a0 a1) := by
  refine z_D_of (lv := [vR a0, vI a1, vU]) hst z_mX11_more rfl ?_ (Nat.le_of_ble_eq_true rfl) rfl
  unfold fX11_more
  refine G_aload_n (x := a0) (pc := 0) dX11_more_0 rfl ?_
  refine G_iload_n (x := a1) (pc := 1) dX11_more_1 rfl ?_
  refine G_iconst (pc := 2) dX11_more_2 ?_
  refine G_aload_n (x := a0) (pc := 3) dX11_more_3 rfl ?_
  refine G_getI (j := 12) (pc := 4) dX11_more_4 rfl z_CLX11 (by decide) z_wX11_107 (by decide) (fun x1 => ?_)
  refine G_callVN (as := [vI a1, vI 0, vI x1]) (st := []) (c := 11) (bc2 := 0) (bs2 := 0) (pc := 7) dX11_more_7 z_mX11_needWithin z_vX11_needWithin z_wX11_113 (gX11_needWithin hst fu s a0 a1 0 x1) rfl rfl (by decide) rfl rfl ⟨by decide, by decide, by decide, by decide, Nat.le_of_ble_eq_true rfl⟩ rfl (fun s2 => ?_)
  refine G_aload_n (x := a0) (pc := 10) dX11_more_10 rfl ?_
  refine G_getR (j := 3) (pc := 11) dX11_more_11 rfl z_CLX11 (by decide) z_wX11_32 (by decide) (fun x3 => ?_)
  refine G_aload_n (x := a0) (pc := 14) dX11_more_14 rfl ?_
  refine G_getR (j := 2) (pc := 15) dX11_more_15 rfl z_CLX11 (by decide) z_wX11_28 (by decide) (fun x4 => ?_)
  refine G_callVN (as := [vR x4]) (st := []) (c := 9) (bc2 := 0) (bs2 := 0) (pc := 18) dX11_more_18 z_mX9_copyFrom z_vX9_copyFrom z_wX11_130 (gX9_copyFrom hst fu s2 x3 x4) rfl rfl (by decide) rfl rfl ⟨by decide, by decide, by decide, by decide, Nat.le_of_ble_eq_true rfl⟩ rfl (fun s5 => ?_)
  refine G_aload_n (x := a0) (pc := 21) dX11_more_21 rfl ?_
  refine G_iload_n (x := a1) (pc := 22) dX11_more_22 rfl ?_
  refine G_callVI (as := [vI a1]) (st := []) (c := 11) (bc2 := 0) (bs2 := 0) (pc := 23) dX11_more_23 z_mX11_readTape z_vX11_readTape z_wX11_120 (gX11_readTape hst fu s5 a0 a1) rfl rfl (by decide) rfl rfl ⟨by decide, by decide, by decide, by decide, Nat.le_of_ble_eq_true rfl⟩ rfl (fun x7 s6 => ?_)
  refine G_istore_n (lv' := [vR a0, vI a1, vI x7]) (pc := 26) dX11_more_26 rfl ?_
  refine G_aload_n (x := a0) (pc := 27) dX11_more_27 rfl ?_
  refine G_callVN (as := []) (st := []) (c := 11) (bc2 := 0) (bs2 := 0) (pc := 28) dX11_more_28 z_mX11_refresh z_vX11_refresh z_wX11_124 (gX11_refresh hst fu s6 a0) rfl rfl (by decide) rfl rfl ⟨by decide, by decide, by decide, by decide, Nat.le_of_ble_eq_true rfl⟩ rfl (fun s8 => ?_)
  refine G_iload_n (x := x7) (pc := 31) dX11_more_31 rfl ?_
  refine G_if_ne (tgt := 45) (pc := 32) dX11_more_32 ?_ ?_
  · refine G_iload_n (x := x7) (pc := 45) dX11_more_45 rfl ?_
    refine G_bipush (pc := 46) dX11_more_46 ?_
    refine G_isub (pc := 48) dX11_more_48 (fun x9 => ?_)
    refine G_fg (lv2 := [vU, vU, vU]) ⟨Or.inl rfl, Or.inl rfl, Or.inl rfl, trivial⟩ ?_
    exact gX11_more_J49 hst fu s8 x9
  · refine G_aload_n (x := a0) (pc := 35) dX11_more_35 rfl ?_
    refine G_getR (j := 6) (pc := 36) dX11_more_36 rfl z_CLX11 (by decide) z_wX11_56 (by decide) (fun x10 => ?_)
    refine G_getI (j := 16) (pc := 39) dX11_more_39 rfl z_CLX10 (by decide) z_wX11_127 (by decide) (fun x11 => ?_)
    refine G_goto (tgt := 49) (pc := 42) dX11_more_42 ?_
    refine G_fg (lv2 := [vU, vU, vU]) ⟨Or.inl rfl, Or.inl rfl, Or.inl rfl, trivial⟩ ?_
    exact gX11_more_J49 hst fu s8 x11
def fX11_pick_J17 (fu : Nat) (s : z_M) (t0 : Int) : z_O := some (vI t0, s)
theorem gX11_pick_J17 {l : Launch} {K : z_K} (hst : l.stackTraces = false) (fu : Nat) (s : z_M) (t0 : Int) : G l K mX11_pick 0 0 0 0 17 [vU, vU] [vI t0] s (fX11_pick_J17 fu s t0) := by
  unfold fX11_pick_J17
  exact G_iret (pc := 17) dX11_pick_17
def fX11_pick_J16 (fu : Nat) (s : z_M) : z_O := fX11_pick_J17 fu s 0
theorem gX11_pick_J16 {l : Launch} {K : z_K} (hst : l.stackTraces = false) (fu : Nat) (s : z_M) : G l K mX11_pick 0 0 0 0 16 [vU, vU] [] s (fX11_pick_J16 fu s) := by
  unfold fX11_pick_J16
  refine G_iconst (pc := 16) dX11_pick_16 ?_
  exact gX11_pick_J17 hst fu s 0
def fX11_pick (fu : Nat) (s : z_M) (a0 : Nat) (a1 : Int) : z_O := if (a1 : Int) < 0 then (fX11_pick_J16 fu s) else (if a0 < 3 then if (9 : Int) ≤ a1 then (fX11_pick_J16 fu s) else (if a0 < 3 ∧ 0 ≤ a1 ∧ a1 < 9 then z_let (z_tb a0 (Int.toNat a1)) (fun x2 => fX11_pick_J17 fu s x2) else none) else none)
theorem gX11_pick {l : Launch} {K : z_K} (hst : l.stackTraces = false) (fu : Nat) (s : z_M) (a0 : Nat) (a1 : Int) : z_D l K mX11_pick 0 0 0 0 [vT a0, vI a1] s (fX11_pick fu s a0 a1) := by
  refine z_D_of (lv := [vT a0, vI a1]) hst z_mX11_pick rfl ?_ (Nat.le_of_ble_eq_true rfl) rfl
  unfold fX11_pick
  refine G_iload_n (x := a1) (pc := 0) dX11_pick_0 rfl ?_
  refine G_if_lt (tgt := 16) (pc := 1) dX11_pick_1 ?_ ?_
  · refine G_fg (lv2 := [vU, vU]) ⟨Or.inl rfl, Or.inl rfl, trivial⟩ ?_
    exact gX11_pick_J16 hst fu s
  · refine G_iload_n (x := a1) (pc := 4) dX11_pick_4 rfl ?_
    refine G_tload_n (x := a0) (pc := 5) dX11_pick_5 rfl ?_
    refine G_tlen (pc := 6) dX11_pick_6 ?_
    refine G_icmp_ge (tgt := 16) (pc := 7) dX11_pick_7 ?_ ?_
    · refine G_fg (lv2 := [vU, vU]) ⟨Or.inl rfl, Or.inl rfl, trivial⟩ ?_
      exact gX11_pick_J16 hst fu s
    · refine G_tload_n (x := a0) (pc := 10) dX11_pick_10 rfl ?_
      refine G_iload_n (x := a1) (pc := 11) dX11_pick_11 rfl ?_
      refine G_tald (pc := 12) dX11_pick_12 (fun x2 => ?_)
      refine G_goto (tgt := 17) (pc := 13) dX11_pick_13 ?_
      refine G_fg (lv2 := [vU, vU]) ⟨Or.inl rfl, Or.inl rfl, trivial⟩ ?_
      exact gX11_pick_J17 hst fu s x2
def fX11_set_J79 (fu : Nat) (s : z_M) (a3 : Int) : z_O := some (vI a3, s)
theorem gX11_set_J79 {l : Launch} {K : z_K} (hst : l.stackTraces = false) (fu : Nat) (s : z_M) (a3 : Int) : G l K mX11_set 7 104 0 0 79 [vU, vU, vU, vI a3] [] s (fX11_set_J79 fu s a3) := by
  unfold fX11_set_J79
  refine G_iload_n (x := a3) (pc := 79) dX11_set_79 rfl ?_
  exact G_iret (pc := 80) dX11_set_80
def fX11_set (fu : Nat) (s : z_M) (a0 : Int) (a1 : Int) (a2 : Int) : z_O := if 2 < 3 then z_let (z_w (9 - 1)) (fun x2 => if z_ob a0 11 then z_bN (fX11_needWithin fu s a0 a1 0 x2) (fun s3 => z_bI (fX11_pick fu s3 0 a1) (fun x5 s4 => z_bI (fX11_pick fu s4 1 a1) (fun x7 s6 => if z_ob a0 11 then z_bN (fX11_needWithin fu s6 a0 a2 x5 x7) (fun s8 => if z_ob a0 11 then z_let (z_gr a0 0) (fun x9 => if z_ob x9 7 then z_bI (fX7_get fu s8 x9 a1) (fun x11 s10 => if z_ob a0 11 then z_let (z_gr a0 0) (fun x12 => if z_ob x12 7 then z_bN (fX7_put fu s10 x12 a1 a2) (fun s13 => if z_ob a0 11 ∧ z_bl 0 then z_let (z_up s13 a0 17 0) (fun s14 => if (a1 : Int) = 0 then (fX11_set_J79 fu s14 x11) else (if (a1 : Int) = 3 then (fX11_set_J79 fu s14 x11) else (if (a1 : Int) = 4 then (fX11_set_J79 fu s14 x11) else (if (a1 : Int) = 8 then (fX11_set_J79 fu s14 x11) else (if z_ob a0 11 ∧ z_bl 0 then z_let (z_up s14 a0 16 0) (fun s15 => fX11_set_J79 fu s15 x11) else none))))) else none) else none) else none) else none) else none) else none))) else none) else none
theorem gX11_set {l : Launch} {K : z_K} (hst : l.stackTraces = false) (fu : Nat) (s : z_M) (a0 : Int) (a1 : Int) (a2 : Int) : z_D l K mX11_set 7 104 2 12 [vR a0, vI a1, vI a2] s (fX11_set fu s a0 a1 a2) := by
  refine z_D_of (lv := [vR a0, vI a1, vI a2, vU]) hst z_mX11_set rfl ?_ (Nat.le_of_ble_eq_true rfl) rfl
  unfold fX11_set
  refine G_aload_n (x := a0) (pc := 0) dX11_set_0 rfl ?_
  refine G_iload_n (x := a1) (pc := 1) dX11_set_1 rfl ?_
  refine G_iconst (pc := 2) dX11_set_2 ?_
  refine G_gets (i := 2) (pc := 3) dX11_set_3 z_wX11_9 ?_
  refine G_tlen (pc := 6) dX11_set_6 ?_
  refine G_iconst (pc := 7) dX11_set_7 ?_
  refine G_isub (pc := 8) dX11_set_8 (fun x2 => ?_)
  refine G_callVN (as := [vI a1, vI 0, vI x2]) (st := []) (c := 11) (bc2 := 1) (bs2 := 6) (pc := 9) dX11_set_9 z_mX11_needWithin z_vX11_needWithin z_wX11_113 (gX11_needWithin hst fu s a0 a1 0 x2) rfl rfl (by decide) rfl rfl ⟨by decide, by decide, by decide, by decide, Nat.le_of_ble_eq_true rfl⟩ rfl (fun s3 => ?_)
  refine G_aload_n (x := a0) (pc := 12) dX11_set_12 rfl ?_
  refine G_iload_n (x := a2) (pc := 13) dX11_set_13 rfl ?_
  refine G_gets (i := 0) (pc := 14) dX11_set_14 z_wX11_133 ?_
  refine G_iload_n (x := a1) (pc := 17) dX11_set_17 rfl ?_
  refine G_callSI (as := [vT 0, vI a1]) (st := [vI a2, vR a0]) (bc2 := 1) (bs2 := 6) (pc := 18) dX11_set_18 z_mX11_pick z_sX11_pick z_wX11_136 (gX11_pick hst fu s3 0 a1) rfl rfl ⟨by decide, by decide, by decide, by decide, Nat.le_of_ble_eq_true rfl⟩ rfl (fun x5 s4 => ?_)
  refine G_gets (i := 1) (pc := 21) dX11_set_21 z_wX11_140 ?_
  refine G_iload_n (x := a1) (pc := 24) dX11_set_24 rfl ?_
  refine G_callSI (as := [vT 1, vI a1]) (st := [vI x5, vI a2, vR a0]) (bc2 := 1) (bs2 := 6) (pc := 25) dX11_set_25 z_mX11_pick z_sX11_pick z_wX11_136 (gX11_pick hst fu s4 1 a1) rfl rfl ⟨by decide, by decide, by decide, by decide, Nat.le_of_ble_eq_true rfl⟩ rfl (fun x7 s6 => ?_)
  refine G_callVN (as := [vI a2, vI x5, vI x7]) (st := []) (c := 11) (bc2 := 0) (bs2 := 0) (pc := 28) dX11_set_28 z_mX11_needWithin z_vX11_needWithin z_wX11_113 (gX11_needWithin hst fu s6 a0 a2 x5 x7) rfl rfl (by decide) rfl rfl ⟨by decide, by decide, by decide, by decide, Nat.le_of_ble_eq_true rfl⟩ rfl (fun s8 => ?_)
  refine G_aload_n (x := a0) (pc := 31) dX11_set_31 rfl ?_
  refine G_getR (j := 0) (pc := 32) dX11_set_32 rfl z_CLX11 (by decide) z_wX11_18 (by decide) (fun x9 => ?_)
  refine G_iload_n (x := a1) (pc := 35) dX11_set_35 rfl ?_
  refine G_callVI (as := [vI a1]) (st := []) (c := 7) (bc2 := 0) (bs2 := 0) (pc := 36) dX11_set_36 z_mX7_get z_vX7_get z_wX11_143 (gX7_get hst fu s8 x9 a1) rfl rfl (by decide) rfl rfl ⟨by decide, by decide, by decide, by decide, Nat.le_of_ble_eq_true rfl⟩ rfl (fun x11 s10 => ?_)
  refine G_istore_n (lv' := [vR a0, vI a1, vI a2, vI x11]) (pc := 39) dX11_set_39 rfl ?_
  refine G_aload_n (x := a0) (pc := 40) dX11_set_40 rfl ?_
  refine G_getR (j := 0) (pc := 41) dX11_set_41 rfl z_CLX11 (by decide) z_wX11_18 (by decide) (fun x12 => ?_)
  refine G_iload_n (x := a1) (pc := 44) dX11_set_44 rfl ?_
  refine G_iload_n (x := a2) (pc := 45) dX11_set_45 rfl ?_
  refine G_callVN (as := [vI a1, vI a2]) (st := []) (c := 7) (bc2 := 0) (bs2 := 0) (pc := 46) dX11_set_46 z_mX7_put z_vX7_put z_wX11_103 (gX7_put hst fu s10 x12 a1 a2) rfl rfl (by decide) rfl rfl ⟨by decide, by decide, by decide, by decide, Nat.le_of_ble_eq_true rfl⟩ rfl (fun s13 => ?_)
  refine G_aload_n (x := a0) (pc := 49) dX11_set_49 rfl ?_
  refine G_iconst (pc := 50) dX11_set_50 ?_
  refine G_putZ (j := 17) (pc := 51) dX11_set_51 rfl z_CLX11 (by decide) z_wX11_146 rfl (by decide) (fun s14 => ?_)
  refine G_iload_n (x := a1) (pc := 54) dX11_set_54 rfl ?_
  refine G_if_eq (tgt := 79) (pc := 55) dX11_set_55 ?_ ?_
  · refine G_fg (lv2 := [vU, vU, vU, vI x11]) ⟨Or.inl rfl, Or.inl rfl, Or.inl rfl, Or.inr rfl, trivial⟩ ?_
    exact gX11_set_J79 hst fu s14 x11
  · refine G_iload_n (x := a1) (pc := 58) dX11_set_58 rfl ?_
    refine G_iconst (pc := 59) dX11_set_59 ?_
    refine G_icmp_eq (tgt := 79) (pc := 60) dX11_set_60 ?_ ?_
    · refine G_fg (lv2 := [vU, vU, vU, vI x11]) ⟨Or.inl rfl, Or.inl rfl, Or.inl rfl, Or.inr rfl, trivial⟩ ?_
      exact gX11_set_J79 hst fu s14 x11
    · refine G_iload_n (x := a1) (pc := 63) dX11_set_63 rfl ?_
      refine G_iconst (pc := 64) dX11_set_64 ?_
      refine G_icmp_eq (tgt := 79) (pc := 65) dX11_set_65 ?_ ?_
      · refine G_fg (lv2 := [vU, vU, vU, vI x11]) ⟨Or.inl rfl, Or.inl rfl, Or.inl rfl, Or.inr rfl, trivial⟩ ?_
        exact gX11_set_J79 hst fu s14 x11
      · refine G_iload_n (x := a1) (pc := 68) dX11_set_68 rfl ?_
        refine G_bipush (pc := 69) dX11_set_69 ?_
        refine G_icmp_eq (tgt := 79) (pc := 71) dX11_set_71 ?_ ?_
        · refine G_fg (lv2 := [vU, vU, vU, vI x11]) ⟨Or.inl rfl, Or.inl rfl, Or.inl rfl, Or.inr rfl, trivial⟩ ?_
          exact gX11_set_J79 hst fu s14 x11
        · refine G_aload_n (x := a0) (pc := 74) dX11_set_74 rfl ?_
          refine G_iconst (pc := 75) dX11_set_75 ?_
          refine G_putZ (j := 16) (pc := 76) dX11_set_76 rfl z_CLX11 (by decide) z_wX11_150 rfl (by decide) (fun s15 => ?_)
          refine G_fg (lv2 := [vU, vU, vU, vI x11]) ⟨Or.inl rfl, Or.inl rfl, Or.inl rfl, Or.inr rfl, trivial⟩ ?_
          exact gX11_set_J79 hst fu s15 x11
def fX11_needExisting_J9 (fu : Nat) (s : z_M) (a0 : Int) : z_O := if z_ob a0 11 then z_let (s a0 14) (fun x1 => z_let (z_w (x1 + 1)) (fun x2 => if z_ob a0 11 then z_let (z_up s a0 14 x2) (fun s3 => some (vX 0, s3)) else none)) else none
theorem gX11_needExisting_J9 {l : Launch} {K : z_K} (hst : l.stackTraces = false) (fu : Nat) (s : z_M) (a0 : Int) : G l K mX11_needExisting 6 81 1 6 9 [vR a0, vU, vU] [] s (fX11_needExisting_J9 fu s a0) := by
  unfold fX11_needExisting_J9
  refine G_aload_n (x := a0) (pc := 9) dX11_needExisting_9 rfl ?_
  refine G_dupR (pc := 10) dX11_needExisting_10 ?_
  refine G_getI (j := 14) (pc := 11) dX11_needExisting_11 rfl z_CLX11 (by decide) z_wX11_353 (by decide) (fun x1 => ?_)
  refine G_iconst (pc := 14) dX11_needExisting_14 ?_
  refine G_iadd (pc := 15) dX11_needExisting_15 (fun x2 => ?_)
  refine G_putI (j := 14) (pc := 16) dX11_needExisting_16 rfl z_CLX11 (by decide) z_wX11_353 rfl (by decide) (by decide) (fun s3 => ?_)
  exact G_throw (pc := 19) z_tokX11_0 dX11_needExisting_19 dX11_needExisting_22 dX11_needExisting_23 dX11_needExisting_26
def fX11_needExisting (fu : Nat) (s : z_M) (a0 : Int) (a1 : Int) (a2 : Int) : z_O := if (a1 : Int) < 0 then (fX11_needExisting_J9 fu s a0) else (if (a1 : Int) < a2 then (some (vN, s)) else (fX11_needExisting_J9 fu s a0))
theorem gX11_needExisting {l : Launch} {K : z_K} (hst : l.stackTraces = false) (fu : Nat) (s : z_M) (a0 : Int) (a1 : Int) (a2 : Int) : z_D l K mX11_needExisting 6 81 1 6 [vR a0, vI a1, vI a2] s (fX11_needExisting fu s a0 a1 a2) := by
  refine z_D_of (lv := [vR a0, vI a1, vI a2]) hst z_mX11_needExisting rfl ?_ (Nat.le_of_ble_eq_true rfl) rfl
  unfold fX11_needExisting
  refine G_iload_n (x := a1) (pc := 0) dX11_needExisting_0 rfl ?_
  refine G_if_lt (tgt := 9) (pc := 1) dX11_needExisting_1 ?_ ?_
  · refine G_fg (lv2 := [vR a0, vU, vU]) ⟨Or.inr rfl, Or.inl rfl, Or.inl rfl, trivial⟩ ?_
    exact gX11_needExisting_J9 hst fu s a0
  · refine G_iload_n (x := a1) (pc := 4) dX11_needExisting_4 rfl ?_
    refine G_iload_n (x := a2) (pc := 5) dX11_needExisting_5 rfl ?_
    refine G_icmp_lt (tgt := 27) (pc := 6) dX11_needExisting_6 ?_ ?_
    · exact G_vret (pc := 27) dX11_needExisting_27
    · refine G_fg (lv2 := [vR a0, vU, vU]) ⟨Or.inr rfl, Or.inl rfl, Or.inl rfl, trivial⟩ ?_
      exact gX11_needExisting_J9 hst fu s a0
def fX7_close_L3 (fu : Nat) (a0 : Int) (a1 : Int) (a2 : Int) (a3 : Int) : Nat → z_M → Int → (z_M → z_O) → z_O
  | 0, _, _, _ => none
  | F + 1, s, a4, k => if (a3 : Int) ≤ a4 then (k s) else (z_let (z_w (a1 + a4)) (fun x1 => z_let (z_w (x1 - a2)) (fun x2 => if z_ob a0 7 then z_bI (fX7_get fu s a0 a4) (fun x4 s3 => if z_ob a0 7 then z_bN (fX7_put fu s3 a0 x2 x4) (fun s5 => z_let (z_w (a4 + 1)) (fun x6 => fX7_close_L3 fu a0 a1 a2 a3 F s5 x6 k)) else none) else none)))
theorem gX7_close_L3 {l : Launch} {K : z_K} (hst : l.stackTraces = false) (fu : Nat) (a0 : Int) (a1 : Int) (a2 : Int) (a3 : Int) (k : z_M → z_O) (hk : ∀ (s : z_M), G l K mX7_close 1 22 0 0 31 [vU, vU, vU, vU, vU] [] s (k s)) : ∀ (F : Nat) (s : z_M) (a4 : Int), G l K mX7_close 1 22 0 0 3 [vR a0, vI a1, vI a2, vI a3, vI a4] [] s (fX7_close_L3 fu a0 a1 a2 a3 F s a4 k) := by
  intro F
  induction F with
  | zero => exact fun s a4 h => absurd rfl h
  | succ F ih =>
    intro s a4
    rw [fX7_close_L3]
    refine G_iload (x := a4) (pc := 3) dX7_close_3 rfl ?_
    refine G_iload_n (x := a3) (pc := 5) dX7_close_5 rfl ?_
    refine G_icmp_ge (tgt := 31) (pc := 6) dX7_close_6 ?_ ?_
    · refine G_fg (lv2 := [vU, vU, vU, vU, vU]) ⟨Or.inl rfl, Or.inl rfl, Or.inl rfl, Or.inl rfl, Or.inl rfl, trivial⟩ ?_
      exact hk s
    · refine G_aload_n (x := a0) (pc := 9) dX7_close_9 rfl ?_
      refine G_iload_n (x := a1) (pc := 10) dX7_close_10 rfl ?_
      refine G_iload (x := a4) (pc := 11) dX7_close_11 rfl ?_
      refine G_iadd (pc := 13) dX7_close_13 (fun x1 => ?_)
      refine G_iload_n (x := a2) (pc := 14) dX7_close_14 rfl ?_
      refine G_isub (pc := 15) dX7_close_15 (fun x2 => ?_)
      refine G_aload_n (x := a0) (pc := 16) dX7_close_16 rfl ?_
      refine G_iload (x := a4) (pc := 17) dX7_close_17 rfl ?_
      refine G_callVI (as := [vI a4]) (st := [vI x2, vR a0]) (c := 7) (bc2 := 0) (bs2 := 0) (pc := 19) dX7_close_19 z_mX7_get z_vX7_get z_wX7_17 (gX7_get hst fu s a0 a4) rfl rfl (by decide) rfl rfl ⟨by decide, by decide, by decide, by decide, Nat.le_of_ble_eq_true rfl⟩ rfl (fun x4 s3 => ?_)
      refine G_callVN (as := [vI x2, vI x4]) (st := []) (c := 7) (bc2 := 0) (bs2 := 0) (pc := 22) dX7_close_22 z_mX7_put z_vX7_put z_wX7_13 (gX7_put hst fu s3 a0 x2 x4) rfl rfl (by decide) rfl rfl ⟨by decide, by decide, by decide, by decide, Nat.le_of_ble_eq_true rfl⟩ rfl (fun s5 => ?_)
      refine G_iinc (x := a4) (g := fun x6 => [vR a0, vI a1, vI a2, vI a3, vI x6]) (pc := 25) dX7_close_25 rfl (fun _ => rfl) (fun x6 => ?_)
      refine G_goto (tgt := 3) (pc := 28) dX7_close_28 ?_
      exact ih s5 x6
def fX7_close (fu : Nat) (s : z_M) (a0 : Int) (a1 : Int) (a2 : Int) (a3 : Int) : z_O := fX7_close_L3 fu a0 a1 a2 a3 fu s a2 (fun s7 => some (vN, s7))
theorem gX7_close {l : Launch} {K : z_K} (hst : l.stackTraces = false) (fu : Nat) (s : z_M) (a0 : Int) (a1 : Int) (a2 : Int) (a3 : Int) : z_D l K mX7_close 1 22 0 0 [vR a0, vI a1, vI a2, vI a3] s (fX7_close fu s a0 a1 a2 a3) := by
  refine z_D_of (lv := [vR a0, vI a1, vI a2, vI a3, vU]) hst z_mX7_close rfl ?_ (Nat.le_of_ble_eq_true rfl) rfl
  unfold fX7_close
  refine G_iload_n (x := a2) (pc := 0) dX7_close_0 rfl ?_
  refine G_istore (lv' := [vR a0, vI a1, vI a2, vI a3, vI a2]) (pc := 1) dX7_close_1 rfl ?_
  refine gX7_close_L3 hst fu a0 a1 a2 a3 _ (fun s7 => ?_) fu s a2
  exact G_vret (pc := 31) dX7_close_31
def fX4_close_L3 (fu : Nat) (a0 : Int) (a1 : Int) (a2 : Int) (a3 : Int) : Nat → z_M → Int → (z_M → z_O) → z_O
  | 0, _, _, _ => none
  | F + 1, s, a4, k => if (a3 : Int) ≤ a4 then (k s) else (z_let (z_w (a1 + a4)) (fun x1 => z_let (z_w (x1 - a2)) (fun x2 => if z_ob a0 4 then z_bL (fX4_get fu s a0 a4) (fun x4 s3 => if z_ob a0 4 then z_bN (fX4_put fu s3 a0 x2 x4) (fun s5 => z_let (z_w (a4 + 1)) (fun x6 => fX4_close_L3 fu a0 a1 a2 a3 F s5 x6 k)) else none) else none)))
theorem gX4_close_L3 {l : Launch} {K : z_K} (hst : l.stackTraces = false) (fu : Nat) (a0 : Int) (a1 : Int) (a2 : Int) (a3 : Int) (k : z_M → z_O) (hk : ∀ (s : z_M), G l K mX4_close 1 23 0 0 31 [vU, vU, vU, vU, vU] [] s (k s)) : ∀ (F : Nat) (s : z_M) (a4 : Int), G l K mX4_close 1 23 0 0 3 [vR a0, vI a1, vI a2, vI a3, vI a4] [] s (fX4_close_L3 fu a0 a1 a2 a3 F s a4 k) := by
  intro F
  induction F with
  | zero => exact fun s a4 h => absurd rfl h
  | succ F ih =>
    intro s a4
    rw [fX4_close_L3]
    refine G_iload (x := a4) (pc := 3) dX4_close_3 rfl ?_
    refine G_iload_n (x := a3) (pc := 5) dX4_close_5 rfl ?_
    refine G_icmp_ge (tgt := 31) (pc := 6) dX4_close_6 ?_ ?_
    · refine G_fg (lv2 := [vU, vU, vU, vU, vU]) ⟨Or.inl rfl, Or.inl rfl, Or.inl rfl, Or.inl rfl, Or.inl rfl, trivial⟩ ?_
      exact hk s
    · refine G_aload_n (x := a0) (pc := 9) dX4_close_9 rfl ?_
      refine G_iload_n (x := a1) (pc := 10) dX4_close_10 rfl ?_
      refine G_iload (x := a4) (pc := 11) dX4_close_11 rfl ?_
      refine G_iadd (pc := 13) dX4_close_13 (fun x1 => ?_)
      refine G_iload_n (x := a2) (pc := 14) dX4_close_14 rfl ?_
      refine G_isub (pc := 15) dX4_close_15 (fun x2 => ?_)
      refine G_aload_n (x := a0) (pc := 16) dX4_close_16 rfl ?_
      refine G_iload (x := a4) (pc := 17) dX4_close_17 rfl ?_
      refine G_callVL (as := [vI a4]) (st := [vI x2, vR a0]) (c := 4) (bc2 := 0) (bs2 := 0) (pc := 19) dX4_close_19 z_mX4_get z_vX4_get z_wX4_13 (gX4_get hst fu s a0 a4) rfl rfl (by decide) rfl rfl ⟨by decide, by decide, by decide, by decide, Nat.le_of_ble_eq_true rfl⟩ rfl (fun x4 s3 => ?_)
      refine G_callVN (as := [vI x2, vL x4]) (st := []) (c := 4) (bc2 := 0) (bs2 := 0) (pc := 22) dX4_close_22 z_mX4_put z_vX4_put z_wX4_17 (gX4_put hst fu s3 a0 x2 x4) rfl rfl (by decide) rfl rfl ⟨by decide, by decide, by decide, by decide, Nat.le_of_ble_eq_true rfl⟩ rfl (fun s5 => ?_)
      refine G_iinc (x := a4) (g := fun x6 => [vR a0, vI a1, vI a2, vI a3, vI x6]) (pc := 25) dX4_close_25 rfl (fun _ => rfl) (fun x6 => ?_)
      refine G_goto (tgt := 3) (pc := 28) dX4_close_28 ?_
      exact ih s5 x6
def fX4_close (fu : Nat) (s : z_M) (a0 : Int) (a1 : Int) (a2 : Int) (a3 : Int) : z_O := fX4_close_L3 fu a0 a1 a2 a3 fu s a2 (fun s7 => some (vN, s7))
theorem gX4_close {l : Launch} {K : z_K} (hst : l.stackTraces = false) (fu : Nat) (s : z_M) (a0 : Int) (a1 : Int) (a2 : Int) (a3 : Int) : z_D l K mX4_close 1 23 0 0 [vR a0, vI a1, vI a2, vI a3] s (fX4_close fu s a0 a1 a2 a3) := by
  refine z_D_of (lv := [vR a0, vI a1, vI a2, vI a3, vU]) hst z_mX4_close rfl ?_ (Nat.le_of_ble_eq_true rfl) rfl
  unfold fX4_close
  refine G_iload_n (x := a2) (pc := 0) dX4_close_0 rfl ?_
  refine G_istore (lv' := [vR a0, vI a1, vI a2, vI a3, vI a2]) (pc := 1) dX4_close_1 rfl ?_
  refine gX4_close_L3 hst fu a0 a1 a2 a3 _ (fun s7 => ?_) fu s a2
  exact G_vret (pc := 31) dX4_close_31
def fX9_renumber_J64 (fu : Nat) (s : z_M) (a0 : Int) (a2 : Int) (a3 : Int) (r : z_M → Int → Int → z_O) (k : z_M → z_O) : z_O := z_let (z_w (a2 + 1)) (fun x6 => r s a3 x6)
theorem gX9_renumber_J64 {l : Launch} {K : z_K} (hst : l.stackTraces = false) (fu : Nat) (s : z_M) (a0 : Int) (a2 : Int) (a3 : Int) (r : z_M → Int → Int → z_O) (k : z_M → z_O) (hr : ∀ (s : z_M) (a1 : Int) (a2 : Int), G l K mX9_renumber 1 22 0 0 9 [vR a0, vI a1, vI a2, vU] [] s (r s a1 a2)) (hk : ∀ (s : z_M), G l K mX9_renumber 1 22 0 0 72 [vU, vU, vU, vU] [] s (k s)) : G l K mX9_renumber 1 22 0 0 64 [vR a0, vU, vI a2, vI a3] [] s (fX9_renumber_J64 fu s a0 a2 a3 r k) := by
  unfold fX9_renumber_J64
  refine G_iload_n (x := a3) (pc := 64) dX9_renumber_64 rfl ?_
  refine G_istore_n (lv' := [vR a0, vI a3, vI a2, vI a3]) (pc := 65) dX9_renumber_65 rfl ?_
  refine G_iinc (x := a2) (g := fun x6 => [vR a0, vI a3, vI x6, vI a3]) (pc := 66) dX9_renumber_66 rfl (fun _ => rfl) (fun x6 => ?_)
  refine G_goto (tgt := 9) (pc := 69) dX9_renumber_69 ?_
  refine G_fg (lv2 := [vR a0, vI a3, vI x6, vU]) ⟨Or.inr rfl, Or.inr rfl, Or.inr rfl, Or.inl rfl, trivial⟩ ?_
  exact hr s a3 x6
def fX9_renumber_J46 (fu : Nat) (s : z_M) (a0 : Int) (a2 : Int) (a3 : Int) (t0 : Int) (t1 : Int) (t2 : Int) (r : z_M → Int → Int → z_O) (k : z_M → z_O) : z_O := z_let (z_w (t1 + t2)) (fun x8 => if z_ob t0 9 then z_let (z_up s t0 7 x8) (fun s9 => if z_ob a0 9 then z_let (z_gr a0 2) (fun x10 => if z_ob a0 9 then z_let (s9 a0 7) (fun x11 => z_let (z_w (x11 - 1)) (fun x12 => if z_ob x10 7 then z_bN (fX7_put fu s9 x10 a2 x12) (fun s13 => fX9_renumber_J64 fu s13 a0 a2 a3 (fun w v1 v2 => r w v1 v2) k) else none)) else none) else none) else none)
theorem gX9_renumber_J46 {l : Launch} {K : z_K} (hst : l.stackTraces = false) (fu : Nat) (s : z_M) (a0 : Int) (a2 : Int) (a3 : Int) (t0 : Int) (t1 : Int) (t2 : Int) (r : z_M → Int → Int → z_O) (k : z_M → z_O) (hr : ∀ (s : z_M) (a1 : Int) (a2 : Int), G l K mX9_renumber 1 22 0 0 9 [vR a0, vI a1, vI a2, vU] [] s (r s a1 a2)) (hk : ∀ (s : z_M), G l K mX9_renumber 1 22 0 0 72 [vU, vU, vU, vU] [] s (k s)) : G l K mX9_renumber 1 22 0 0 46 [vR a0, vU, vI a2, vI a3] [vI t2, vI t1, vR t0] s (fX9_renumber_J46 fu s a0 a2 a3 t0 t1 t2 r k) := by
  unfold fX9_renumber_J46
  refine G_iadd (pc := 46) dX9_renumber_46 (fun x8 => ?_)
  refine G_putI (j := 7) (pc := 47) dX9_renumber_47 rfl z_CLX9 (by decide) z_wX9_43 rfl (by decide) (by decide) (fun s9 => ?_)
  refine G_aload_n (x := a0) (pc := 50) dX9_renumber_50 rfl ?_
  refine G_getR (j := 2) (pc := 51) dX9_renumber_51 rfl z_CLX9 (by decide) z_wX9_23 (by decide) (fun x10 => ?_)
  refine G_iload_n (x := a2) (pc := 54) dX9_renumber_54 rfl ?_
  refine G_aload_n (x := a0) (pc := 55) dX9_renumber_55 rfl ?_
  refine G_getI (j := 7) (pc := 56) dX9_renumber_56 rfl z_CLX9 (by decide) z_wX9_43 (by decide) (fun x11 => ?_)
  refine G_iconst (pc := 59) dX9_renumber_59 ?_
  refine G_isub (pc := 60) dX9_renumber_60 (fun x12 => ?_)
  refine G_callVN (as := [vI a2, vI x12]) (st := []) (c := 7) (bc2 := 0) (bs2 := 0) (pc := 61) dX9_renumber_61 z_mX7_put z_vX7_put z_wX9_56 (gX7_put hst fu s9 x10 a2 x12) rfl rfl (by decide) rfl rfl ⟨by decide, by decide, by decide, by decide, Nat.le_of_ble_eq_true rfl⟩ rfl (fun s13 => ?_)
  exact gX9_renumber_J64 hst fu s13 a0 a2 a3 _ _ (fun w v1 v2 => hr w v1 v2) hk
def fX9_renumber_L9 (fu : Nat) (a0 : Int) : Nat → z_M → Int → Int → (z_M → z_O) → z_O
  | 0, _, _, _, _ => none
  | F + 1, s, a1, a2, k => if z_ob a0 9 then z_let (s a0 6) (fun x2 => if (x2 : Int) ≤ a2 then (k s) else (if z_ob a0 9 then z_let (z_gr a0 2) (fun x3 => if z_ob x3 7 then z_bI (fX7_get fu s x3 a2) (fun x5 s4 => if (x5 : Int) = (-1) then (fX9_renumber_J64 fu s4 a0 a2 x5 (fun w v1 v2 => fX9_renumber_L9 fu a0 F w v1 v2 k) k) else (if z_ob a0 9 then z_let (s4 a0 7) (fun x7 => if (x5 : Int) ≠ a1 then (fX9_renumber_J46 fu s4 a0 a2 x5 a0 x7 1 (fun w v1 v2 => fX9_renumber_L9 fu a0 F w v1 v2 k) k) else (fX9_renumber_J46 fu s4 a0 a2 x5 a0 x7 0 (fun w v1 v2 => fX9_renumber_L9 fu a0 F w v1 v2 k) k)) else none)) else none) else none)) else none
theorem gX9_renumber_L9 {l : Launch} {K : z_K} (hst : l.stackTraces = false) (fu : Nat) (a0 : Int) (k : z_M → z_O) (hk : ∀ (s : z_M), G l K mX9_renumber 1 22 0 0 72 [vU, vU, vU, vU] [] s (k s)) : ∀ (F : Nat) (s : z_M) (a1 : Int) (a2 : Int), G l K mX9_renumber 1 22 0 0 9 [vR a0, vI a1, vI a2, vU] [] s (fX9_renumber_L9 fu a0 F s a1 a2 k) := by
  intro F
  induction F with
  | zero => exact fun s a1 a2 h => absurd rfl h
  | succ F ih =>
    intro s a1 a2
    rw [fX9_renumber_L9]
    refine G_iload_n (x := a2) (pc := 9) dX9_renumber_9 rfl ?_
    refine G_aload_n (x := a0) (pc := 10) dX9_renumber_10 rfl ?_
    refine G_getI (j := 6) (pc := 11) dX9_renumber_11 rfl z_CLX9 (by decide) z_wX9_39 (by decide) (fun x2 => ?_)
    refine G_icmp_ge (tgt := 72) (pc := 14) dX9_renumber_14 ?_ ?_
    · refine G_fg (lv2 := [vU, vU, vU, vU]) ⟨Or.inl rfl, Or.inl rfl, Or.inl rfl, Or.inl rfl, trivial⟩ ?_
      exact hk s
    · refine G_aload_n (x := a0) (pc := 17) dX9_renumber_17 rfl ?_
      refine G_getR (j := 2) (pc := 18) dX9_renumber_18 rfl z_CLX9 (by decide) z_wX9_23 (by decide) (fun x3 => ?_)
      refine G_iload_n (x := a2) (pc := 21) dX9_renumber_21 rfl ?_
      refine G_callVI (as := [vI a2]) (st := []) (c := 7) (bc2 := 0) (bs2 := 0) (pc := 22) dX9_renumber_22 z_mX7_get z_vX7_get z_wX9_71 (gX7_get hst fu s x3 a2) rfl rfl (by decide) rfl rfl ⟨by decide, by decide, by decide, by decide, Nat.le_of_ble_eq_true rfl⟩ rfl (fun x5 s4 => ?_)
      refine G_istore_n (lv' := [vR a0, vI a1, vI a2, vI x5]) (pc := 25) dX9_renumber_25 rfl ?_
      refine G_iload_n (x := x5) (pc := 26) dX9_renumber_26 rfl ?_
      refine G_iconst (pc := 27) dX9_renumber_27 ?_
      refine G_icmp_eq (tgt := 64) (pc := 28) dX9_renumber_28 ?_ ?_
      · refine G_fg (lv2 := [vR a0, vU, vI a2, vI x5]) ⟨Or.inr rfl, Or.inl rfl, Or.inr rfl, Or.inr rfl, trivial⟩ ?_
        exact gX9_renumber_J64 hst fu s4 a0 a2 x5 _ _ (fun w v1 v2 => ih w v1 v2) hk
      · refine G_aload_n (x := a0) (pc := 31) dX9_renumber_31 rfl ?_
        refine G_dupR (pc := 32) dX9_renumber_32 ?_
        refine G_getI (j := 7) (pc := 33) dX9_renumber_33 rfl z_CLX9 (by decide) z_wX9_43 (by decide) (fun x7 => ?_)
        refine G_iload_n (x := x5) (pc := 36) dX9_renumber_36 rfl ?_
        refine G_iload_n (x := a1) (pc := 37) dX9_renumber_37 rfl ?_
        refine G_icmp_ne (tgt := 45) (pc := 38) dX9_renumber_38 ?_ ?_
        · refine G_iconst (pc := 45) dX9_renumber_45 ?_
          refine G_fg (lv2 := [vR a0, vU, vI a2, vI x5]) ⟨Or.inr rfl, Or.inl rfl, Or.inr rfl, Or.inr rfl, trivial⟩ ?_
          exact gX9_renumber_J46 hst fu s4 a0 a2 x5 a0 x7 1 _ _ (fun w v1 v2 => ih w v1 v2) hk
        · refine G_iconst (pc := 41) dX9_renumber_41 ?_
          refine G_goto (tgt := 46) (pc := 42) dX9_renumber_42 ?_
          refine G_fg (lv2 := [vR a0, vU, vI a2, vI x5]) ⟨Or.inr rfl, Or.inl rfl, Or.inr rfl, Or.inr rfl, trivial⟩ ?_
          exact gX9_renumber_J46 hst fu s4 a0 a2 x5 a0 x7 0 _ _ (fun w v1 v2 => ih w v1 v2) hk
def fX9_renumber (fu : Nat) (s : z_M) (a0 : Int) : z_O := if z_ob a0 9 then z_let (z_up s a0 7 0) (fun s1 => fX9_renumber_L9 fu a0 fu s1 (-1) 0 (fun s14 => some (vN, s14))) else none
theorem gX9_renumber {l : Launch} {K : z_K} (hst : l.stackTraces = false) (fu : Nat) (s : z_M) (a0 : Int) : z_D l K mX9_renumber 1 22 0 0 [vR a0] s (fX9_renumber fu s a0) := by
  refine z_D_of (lv := [vR a0, vU, vU, vU]) hst z_mX9_renumber rfl ?_ (Nat.le_of_ble_eq_true rfl) rfl
  unfold fX9_renumber
  refine G_iconst (pc := 0) dX9_renumber_0 ?_
  refine G_istore_n (lv' := [vR a0, vI (-1), vU, vU]) (pc := 1) dX9_renumber_1 rfl ?_
  refine G_aload_n (x := a0) (pc := 2) dX9_renumber_2 rfl ?_
  refine G_iconst (pc := 3) dX9_renumber_3 ?_
  refine G_putI (j := 7) (pc := 4) dX9_renumber_4 rfl z_CLX9 (by decide) z_wX9_43 rfl (by decide) (by decide) (fun s1 => ?_)
  refine G_iconst (pc := 7) dX9_renumber_7 ?_
  refine G_istore_n (lv' := [vR a0, vI (-1), vI 0, vU]) (pc := 8) dX9_renumber_8 rfl ?_
  refine gX9_renumber_L9 hst fu a0 _ (fun s14 => ?_) fu s1 (-1) 0
  exact G_vret (pc := 72) dX9_renumber_72
def fX9_drop (fu : Nat) (s : z_M) (a0 : Int) (a1 : Int) (a2 : Int) : z_O := if z_ob a0 9 then z_let (z_gr a0 0) (fun x1 => if z_ob a0 9 then z_let (s a0 6) (fun x2 => if z_ob x1 7 then z_bN (fX7_close fu s x1 a1 a2 x2) (fun s3 => if z_ob a0 9 then z_let (z_gr a0 1) (fun x4 => if z_ob a0 9 then z_let (s3 a0 6) (fun x5 => if z_ob x4 7 then z_bN (fX7_close fu s3 x4 a1 a2 x5) (fun s6 => if z_ob a0 9 then z_let (z_gr a0 2) (fun x7 => if z_ob a0 9 then z_let (s6 a0 6) (fun x8 => if z_ob x7 7 then z_bN (fX7_close fu s6 x7 a1 a2 x8) (fun s9 => if z_ob a0 9 then z_let (z_gr a0 3) (fun x10 => if z_ob a0 9 then z_let (s9 a0 6) (fun x11 => if z_ob x10 7 then z_bN (fX7_close fu s9 x10 a1 a2 x11) (fun s12 => if z_ob a0 9 then z_let (z_gr a0 4) (fun x13 => if z_ob a0 9 then z_let (s12 a0 6) (fun x14 => if z_ob x13 4 then z_bN (fX4_close fu s12 x13 a1 a2 x14) (fun s15 => if z_ob a0 9 then z_let (z_gr a0 5) (fun x16 => if z_ob a0 9 then z_let (s15 a0 6) (fun x17 => if z_ob x16 4 then z_bN (fX4_close fu s15 x16 a1 a2 x17) (fun s18 => if z_ob a0 9 then z_let (s18 a0 6) (fun x19 => z_let (z_w (a2 - a1)) (fun x20 => z_let (z_w (x19 - x20)) (fun x21 => if z_ob a0 9 then z_let (z_up s18 a0 6 x21) (fun s22 => if z_ob a0 9 then z_bN (fX9_renumber fu s22 a0) (fun s23 => some (vN, s23)) else none) else none))) else none) else none) else none) else none) else none) else none) else none) else none) else none) else none) else none) else none) else none) else none) else none) else none) else none) else none) else none
theorem gX9_drop {l : Launch} {K : z_K} (hst : l.stackTraces = false) (fu : Nat) (s : z_M) (a0 : Int) (a1 : Int) (a2 : Int) : z_D l K mX9_drop 2 47 0 0 [vR a0, vI a1, vI a2] s (fX9_drop fu s a0 a1 a2) := by
  refine z_D_of (lv := [vR a0, vI a1, vI a2]) hst z_mX9_drop rfl ?_ (Nat.le_of_ble_eq_true rfl) rfl
  unfold fX9_drop
  refine G_aload_n (x := a0) (pc := 0) dX9_drop_0 rfl ?_
  refine G_getR (j := 0) (pc := 1) dX9_drop_1 rfl z_CLX9 (by decide) z_wX9_14 (by decide) (fun x1 => ?_)
  refine G_iload_n (x := a1) (pc := 4) dX9_drop_4 rfl ?_
  refine G_iload_n (x := a2) (pc := 5) dX9_drop_5 rfl ?_
  refine G_aload_n (x := a0) (pc := 6) dX9_drop_6 rfl ?_
  refine G_getI (j := 6) (pc := 7) dX9_drop_7 rfl z_CLX9 (by decide) z_wX9_39 (by decide) (fun x2 => ?_)
  refine G_callVN (as := [vI a1, vI a2, vI x2]) (st := []) (c := 7) (bc2 := 0) (bs2 := 0) (pc := 10) dX9_drop_10 z_mX7_close z_vX7_close z_wX9_63 (gX7_close hst fu s x1 a1 a2 x2) rfl rfl (by decide) rfl rfl ⟨by decide, by decide, by decide, by decide, Nat.le_of_ble_eq_true rfl⟩ rfl (fun s3 => ?_)
  refine G_aload_n (x := a0) (pc := 13) dX9_drop_13 rfl ?_
  refine G_getR (j := 1) (pc := 14) dX9_drop_14 rfl z_CLX9 (by decide) z_wX9_20 (by decide) (fun x4 => ?_)
  refine G_iload_n (x := a1) (pc := 17) dX9_drop_17 rfl ?_
  refine G_iload_n (x := a2) (pc := 18) dX9_drop_18 rfl ?_
  refine G_aload_n (x := a0) (pc := 19) dX9_drop_19 rfl ?_
  refine G_getI (j := 6) (pc := 20) dX9_drop_20 rfl z_CLX9 (by decide) z_wX9_39 (by decide) (fun x5 => ?_)
  refine G_callVN (as := [vI a1, vI a2, vI x5]) (st := []) (c := 7) (bc2 := 0) (bs2 := 0) (pc := 23) dX9_drop_23 z_mX7_close z_vX7_close z_wX9_63 (gX7_close hst fu s3 x4 a1 a2 x5) rfl rfl (by decide) rfl rfl ⟨by decide, by decide, by decide, by decide, Nat.le_of_ble_eq_true rfl⟩ rfl (fun s6 => ?_)
  refine G_aload_n (x := a0) (pc := 26) dX9_drop_26 rfl ?_
  refine G_getR (j := 2) (pc := 27) dX9_drop_27 rfl z_CLX9 (by decide) z_wX9_23 (by decide) (fun x7 => ?_)
  refine G_iload_n (x := a1) (pc := 30) dX9_drop_30 rfl ?_
  refine G_iload_n (x := a2) (pc := 31) dX9_drop_31 rfl ?_
  refine G_aload_n (x := a0) (pc := 32) dX9_drop_32 rfl ?_
  refine G_getI (j := 6) (pc := 33) dX9_drop_33 rfl z_CLX9 (by decide) z_wX9_39 (by decide) (fun x8 => ?_)
  refine G_callVN (as := [vI a1, vI a2, vI x8]) (st := []) (c := 7) (bc2 := 0) (bs2 := 0) (pc := 36) dX9_drop_36 z_mX7_close z_vX7_close z_wX9_63 (gX7_close hst fu s6 x7 a1 a2 x8) rfl rfl (by decide) rfl rfl ⟨by decide, by decide, by decide, by decide, Nat.le_of_ble_eq_true rfl⟩ rfl (fun s9 => ?_)
  refine G_aload_n (x := a0) (pc := 39) dX9_drop_39 rfl ?_
  refine G_getR (j := 3) (pc := 40) dX9_drop_40 rfl z_CLX9 (by decide) z_wX9_26 (by decide) (fun x10 => ?_)
  refine G_iload_n (x := a1) (pc := 43) dX9_drop_43 rfl ?_
  refine G_iload_n (x := a2) (pc := 44) dX9_drop_44 rfl ?_
  refine G_aload_n (x := a0) (pc := 45) dX9_drop_45 rfl ?_
  refine G_getI (j := 6) (pc := 46) dX9_drop_46 rfl z_CLX9 (by decide) z_wX9_39 (by decide) (fun x11 => ?_)
  refine G_callVN (as := [vI a1, vI a2, vI x11]) (st := []) (c := 7) (bc2 := 0) (bs2 := 0) (pc := 49) dX9_drop_49 z_mX7_close z_vX7_close z_wX9_63 (gX7_close hst fu s9 x10 a1 a2 x11) rfl rfl (by decide) rfl rfl ⟨by decide, by decide, by decide, by decide, Nat.le_of_ble_eq_true rfl⟩ rfl (fun s12 => ?_)
  refine G_aload_n (x := a0) (pc := 52) dX9_drop_52 rfl ?_
  refine G_getR (j := 4) (pc := 53) dX9_drop_53 rfl z_CLX9 (by decide) z_wX9_32 (by decide) (fun x13 => ?_)
  refine G_iload_n (x := a1) (pc := 56) dX9_drop_56 rfl ?_
  refine G_iload_n (x := a2) (pc := 57) dX9_drop_57 rfl ?_
  refine G_aload_n (x := a0) (pc := 58) dX9_drop_58 rfl ?_
  refine G_getI (j := 6) (pc := 59) dX9_drop_59 rfl z_CLX9 (by decide) z_wX9_39 (by decide) (fun x14 => ?_)
  refine G_callVN (as := [vI a1, vI a2, vI x14]) (st := []) (c := 4) (bc2 := 0) (bs2 := 0) (pc := 62) dX9_drop_62 z_mX4_close z_vX4_close z_wX9_67 (gX4_close hst fu s12 x13 a1 a2 x14) rfl rfl (by decide) rfl rfl ⟨by decide, by decide, by decide, by decide, Nat.le_of_ble_eq_true rfl⟩ rfl (fun s15 => ?_)
  refine G_aload_n (x := a0) (pc := 65) dX9_drop_65 rfl ?_
  refine G_getR (j := 5) (pc := 66) dX9_drop_66 rfl z_CLX9 (by decide) z_wX9_36 (by decide) (fun x16 => ?_)
  refine G_iload_n (x := a1) (pc := 69) dX9_drop_69 rfl ?_
  refine G_iload_n (x := a2) (pc := 70) dX9_drop_70 rfl ?_
  refine G_aload_n (x := a0) (pc := 71) dX9_drop_71 rfl ?_
  refine G_getI (j := 6) (pc := 72) dX9_drop_72 rfl z_CLX9 (by decide) z_wX9_39 (by decide) (fun x17 => ?_)
  refine G_callVN (as := [vI a1, vI a2, vI x17]) (st := []) (c := 4) (bc2 := 0) (bs2 := 0) (pc := 75) dX9_drop_75 z_mX4_close z_vX4_close z_wX9_67 (gX4_close hst fu s15 x16 a1 a2 x17) rfl rfl (by decide) rfl rfl ⟨by decide, by decide, by decide, by decide, Nat.le_of_ble_eq_true rfl⟩ rfl (fun s18 => ?_)
  refine G_aload_n (x := a0) (pc := 78) dX9_drop_78 rfl ?_
  refine G_dupR (pc := 79) dX9_drop_79 ?_
  refine G_getI (j := 6) (pc := 80) dX9_drop_80 rfl z_CLX9 (by decide) z_wX9_39 (by decide) (fun x19 => ?_)
  refine G_iload_n (x := a2) (pc := 83) dX9_drop_83 rfl ?_
  refine G_iload_n (x := a1) (pc := 84) dX9_drop_84 rfl ?_
  refine G_isub (pc := 85) dX9_drop_85 (fun x20 => ?_)
  refine G_isub (pc := 86) dX9_drop_86 (fun x21 => ?_)
  refine G_putI (j := 6) (pc := 87) dX9_drop_87 rfl z_CLX9 (by decide) z_wX9_39 rfl (by decide) (by decide) (fun s22 => ?_)
  refine G_aload_n (x := a0) (pc := 90) dX9_drop_90 rfl ?_
  refine G_callVN (as := []) (st := []) (c := 9) (bc2 := 0) (bs2 := 0) (pc := 91) dX9_drop_91 z_mX9_renumber z_vX9_renumber z_wX9_68 (gX9_renumber hst fu s22 a0) rfl rfl (by decide) rfl rfl ⟨by decide, by decide, by decide, by decide, Nat.le_of_ble_eq_true rfl⟩ rfl (fun s23 => ?_)
  exact G_vret (pc := 94) dX9_drop_94
def fX11_cut (fu : Nat) (s : z_M) (a0 : Int) (a1 : Int) (a2 : Int) : z_O := if z_ob a0 11 then z_bN (fX11_refresh fu s a0) (fun s1 => if z_ob a0 11 then z_let (z_gr a0 6) (fun x2 => if z_ob x2 10 then z_let (s1 x2 16) (fun x3 => if z_ob a0 11 then z_bN (fX11_needExisting fu s1 a0 a1 x3) (fun s4 => if z_ob a0 11 then z_let (z_gr a0 6) (fun x5 => if z_ob x5 10 then z_let (s4 x5 16) (fun x6 => if z_ob a0 11 then z_bN (fX11_needExisting fu s4 a0 a2 x6) (fun s7 => if z_ob a0 11 then z_let (z_gr a0 6) (fun x8 => if z_ob x8 10 then z_let (s7 x8 16) (fun x9 => if z_ob a0 11 then z_bN (fX11_needWithin fu s7 a0 a2 a1 x9) (fun s10 => if z_ob a0 11 then z_let (z_gr a0 5) (fun x11 => if z_ob a0 11 then z_let (z_gr a0 2) (fun x12 => if z_ob x11 2 then z_bN (fX2_keep fu s10 x11 x12) (fun s13 => if z_ob a0 11 then z_let (z_gr a0 2) (fun x14 => if z_ob a0 11 then z_let (z_gr a0 6) (fun x15 => if z_ob x15 10 then z_let (z_gr x15 3) (fun x16 => if z_ob x16 7 then z_bI (fX7_get fu s13 x16 a1) (fun x18 s17 => if z_ob a0 11 then z_let (z_gr a0 6) (fun x19 => if z_ob x19 10 then z_let (z_gr x19 3) (fun x20 => if z_ob x20 7 then z_bI (fX7_get fu s17 x20 a2) (fun x22 s21 => if z_ob a0 11 then z_let (z_gr a0 6) (fun x23 => if z_ob x23 10 then z_let (z_gr x23 4) (fun x24 => if z_ob x24 7 then z_bI (fX7_get fu s21 x24 a2) (fun x26 s25 => z_let (z_w (x22 + x26)) (fun x27 => if z_ob x14 9 then z_bN (fX9_drop fu s25 x14 x18 x27) (fun s28 => if z_ob a0 11 ∧ z_bl 0 then z_let (z_up s28 a0 16 0) (fun s29 => if z_ob a0 11 then z_bN (fX11_refresh fu s29 a0) (fun s30 => if z_ob a0 11 then z_let (z_gr a0 6) (fun x31 => if z_ob x31 10 then z_let (s30 x31 16) (fun x32 => some (vI x32, s30)) else none) else none) else none) else none) else none)) else none) else none) else none) else none) else none) else none) else none) else none) else none) else none) else none) else none) else none) else none) else none) else none) else none) else none) else none) else none) else none) else none) else none
theorem gX11_cut {l : Launch} {K : z_K} (hst : l.stackTraces = false) (fu : Nat) (s : z_M) (a0 : Int) (a1 : Int) (a2 : Int) : z_D l K mX11_cut 7 172 3 18 [vR a0, vI a1, vI a2] s (fX11_cut fu s a0 a1 a2) := by
  refine z_D_of (lv := [vR a0, vI a1, vI a2]) hst z_mX11_cut rfl ?_ (Nat.le_of_ble_eq_true rfl) rfl
  unfold fX11_cut
  refine G_aload_n (x := a0) (pc := 0) dX11_cut_0 rfl ?_
  refine G_callVN (as := []) (st := []) (c := 11) (bc2 := 3) (bs2 := 18) (pc := 1) dX11_cut_1 z_mX11_refresh z_vX11_refresh z_wX11_124 (gX11_refresh hst fu s a0) rfl rfl (by decide) rfl rfl ⟨by decide, by decide, by decide, by decide, Nat.le_of_ble_eq_true rfl⟩ rfl (fun s1 => ?_)
  refine G_aload_n (x := a0) (pc := 4) dX11_cut_4 rfl ?_
  refine G_iload_n (x := a1) (pc := 5) dX11_cut_5 rfl ?_
  refine G_aload_n (x := a0) (pc := 6) dX11_cut_6 rfl ?_
  refine G_getR (j := 6) (pc := 7) dX11_cut_7 rfl z_CLX11 (by decide) z_wX11_56 (by decide) (fun x2 => ?_)
  refine G_getI (j := 16) (pc := 10) dX11_cut_10 rfl z_CLX10 (by decide) z_wX11_127 (by decide) (fun x3 => ?_)
  refine G_callVN (as := [vI a1, vI x3]) (st := []) (c := 11) (bc2 := 2) (bs2 := 12) (pc := 13) dX11_cut_13 z_mX11_needExisting z_vX11_needExisting z_wX11_153 (gX11_needExisting hst fu s1 a0 a1 x3) rfl rfl (by decide) rfl rfl ⟨by decide, by decide, by decide, by decide, Nat.le_of_ble_eq_true rfl⟩ rfl (fun s4 => ?_)
  refine G_aload_n (x := a0) (pc := 16) dX11_cut_16 rfl ?_
  refine G_iload_n (x := a2) (pc := 17) dX11_cut_17 rfl ?_
  refine G_aload_n (x := a0) (pc := 18) dX11_cut_18 rfl ?_
  refine G_getR (j := 6) (pc := 19) dX11_cut_19 rfl z_CLX11 (by decide) z_wX11_56 (by decide) (fun x5 => ?_)
  refine G_getI (j := 16) (pc := 22) dX11_cut_22 rfl z_CLX10 (by decide) z_wX11_127 (by decide) (fun x6 => ?_)
  refine G_callVN (as := [vI a2, vI x6]) (st := []) (c := 11) (bc2 := 1) (bs2 := 6) (pc := 25) dX11_cut_25 z_mX11_needExisting z_vX11_needExisting z_wX11_153 (gX11_needExisting hst fu s4 a0 a2 x6) rfl rfl (by decide) rfl rfl ⟨by decide, by decide, by decide, by decide, Nat.le_of_ble_eq_true rfl⟩ rfl (fun s7 => ?_)
  refine G_aload_n (x := a0) (pc := 28) dX11_cut_28 rfl ?_
  refine G_iload_n (x := a2) (pc := 29) dX11_cut_29 rfl ?_
  refine G_iload_n (x := a1) (pc := 30) dX11_cut_30 rfl ?_
  refine G_aload_n (x := a0) (pc := 31) dX11_cut_31 rfl ?_
  refine G_getR (j := 6) (pc := 32) dX11_cut_32 rfl z_CLX11 (by decide) z_wX11_56 (by decide) (fun x8 => ?_)
  refine G_getI (j := 16) (pc := 35) dX11_cut_35 rfl z_CLX10 (by decide) z_wX11_127 (by decide) (fun x9 => ?_)
  refine G_callVN (as := [vI a2, vI a1, vI x9]) (st := []) (c := 11) (bc2 := 0) (bs2 := 0) (pc := 38) dX11_cut_38 z_mX11_needWithin z_vX11_needWithin z_wX11_113 (gX11_needWithin hst fu s7 a0 a2 a1 x9) rfl rfl (by decide) rfl rfl ⟨by decide, by decide, by decide, by decide, Nat.le_of_ble_eq_true rfl⟩ rfl (fun s10 => ?_)
  refine G_aload_n (x := a0) (pc := 41) dX11_cut_41 rfl ?_
  refine G_getR (j := 5) (pc := 42) dX11_cut_42 rfl z_CLX11 (by decide) z_wX11_47 (by decide) (fun x11 => ?_)
  refine G_aload_n (x := a0) (pc := 45) dX11_cut_45 rfl ?_
  refine G_getR (j := 2) (pc := 46) dX11_cut_46 rfl z_CLX11 (by decide) z_wX11_28 (by decide) (fun x12 => ?_)
  refine G_callVN (as := [vR x12]) (st := []) (c := 2) (bc2 := 0) (bs2 := 0) (pc := 49) dX11_cut_49 z_mX2_keep z_vX2_keep z_wX11_156 (gX2_keep hst fu s10 x11 x12) rfl rfl (by decide) rfl rfl ⟨by decide, by decide, by decide, by decide, Nat.le_of_ble_eq_true rfl⟩ rfl (fun s13 => ?_)
  refine G_aload_n (x := a0) (pc := 52) dX11_cut_52 rfl ?_
  refine G_getR (j := 2) (pc := 53) dX11_cut_53 rfl z_CLX11 (by decide) z_wX11_28 (by decide) (fun x14 => ?_)
  refine G_aload_n (x := a0) (pc := 56) dX11_cut_56 rfl ?_
  refine G_getR (j := 6) (pc := 57) dX11_cut_57 rfl z_CLX11 (by decide) z_wX11_56 (by decide) (fun x15 => ?_)
  refine G_getR (j := 3) (pc := 60) dX11_cut_60 rfl z_CLX10 (by decide) z_wX11_159 (by decide) (fun x16 => ?_)
  refine G_iload_n (x := a1) (pc := 63) dX11_cut_63 rfl ?_
  refine G_callVI (as := [vI a1]) (st := [vR x14]) (c := 7) (bc2 := 0) (bs2 := 0) (pc := 64) dX11_cut_64 z_mX7_get z_vX7_get z_wX11_143 (gX7_get hst fu s13 x16 a1) rfl rfl (by decide) rfl rfl ⟨by decide, by decide, by decide, by decide, Nat.le_of_ble_eq_true rfl⟩ rfl (fun x18 s17 => ?_)
  refine G_aload_n (x := a0) (pc := 67) dX11_cut_67 rfl ?_
  refine G_getR (j := 6) (pc := 68) dX11_cut_68 rfl z_CLX11 (by decide) z_wX11_56 (by decide) (fun x19 => ?_)
  refine G_getR (j := 3) (pc := 71) dX11_cut_71 rfl z_CLX10 (by decide) z_wX11_159 (by decide) (fun x20 => ?_)
  refine G_iload_n (x := a2) (pc := 74) dX11_cut_74 rfl ?_
  refine G_callVI (as := [vI a2]) (st := [vI x18, vR x14]) (c := 7) (bc2 := 0) (bs2 := 0) (pc := 75) dX11_cut_75 z_mX7_get z_vX7_get z_wX11_143 (gX7_get hst fu s17 x20 a2) rfl rfl (by decide) rfl rfl ⟨by decide, by decide, by decide, by decide, Nat.le_of_ble_eq_true rfl⟩ rfl (fun x22 s21 => ?_)
  refine G_aload_n (x := a0) (pc := 78) dX11_cut_78 rfl ?_
  refine G_getR (j := 6) (pc := 79) dX11_cut_79 rfl z_CLX11 (by decide) z_wX11_56 (by decide) (fun x23 => ?_)
  refine G_getR (j := 4) (pc := 82) dX11_cut_82 rfl z_CLX10 (by decide) z_wX11_162 (by decide) (fun x24 => ?_)
  refine G_iload_n (x := a2) (pc := 85) dX11_cut_85 rfl ?_
  refine G_callVI (as := [vI a2]) (st := [vI x22, vI x18, vR x14]) (c := 7) (bc2 := 0) (bs2 := 0) (pc := 86) dX11_cut_86 z_mX7_get z_vX7_get z_wX11_143 (gX7_get hst fu s21 x24 a2) rfl rfl (by decide) rfl rfl ⟨by decide, by decide, by decide, by decide, Nat.le_of_ble_eq_true rfl⟩ rfl (fun x26 s25 => ?_)
  refine G_iadd (pc := 89) dX11_cut_89 (fun x27 => ?_)
  refine G_callVN (as := [vI x18, vI x27]) (st := []) (c := 9) (bc2 := 0) (bs2 := 0) (pc := 90) dX11_cut_90 z_mX9_drop z_vX9_drop z_wX11_165 (gX9_drop hst fu s25 x14 x18 x27) rfl rfl (by decide) rfl rfl ⟨by decide, by decide, by decide, by decide, Nat.le_of_ble_eq_true rfl⟩ rfl (fun s28 => ?_)
  refine G_aload_n (x := a0) (pc := 93) dX11_cut_93 rfl ?_
  refine G_iconst (pc := 94) dX11_cut_94 ?_
  refine G_putZ (j := 16) (pc := 95) dX11_cut_95 rfl z_CLX11 (by decide) z_wX11_150 rfl (by decide) (fun s29 => ?_)
  refine G_aload_n (x := a0) (pc := 98) dX11_cut_98 rfl ?_
  refine G_callVN (as := []) (st := []) (c := 11) (bc2 := 0) (bs2 := 0) (pc := 99) dX11_cut_99 z_mX11_refresh z_vX11_refresh z_wX11_124 (gX11_refresh hst fu s29 a0) rfl rfl (by decide) rfl rfl ⟨by decide, by decide, by decide, by decide, Nat.le_of_ble_eq_true rfl⟩ rfl (fun s30 => ?_)
  refine G_aload_n (x := a0) (pc := 102) dX11_cut_102 rfl ?_
  refine G_getR (j := 6) (pc := 103) dX11_cut_103 rfl z_CLX11 (by decide) z_wX11_56 (by decide) (fun x31 => ?_)
  refine G_getI (j := 16) (pc := 106) dX11_cut_106 rfl z_CLX10 (by decide) z_wX11_127 (by decide) (fun x32 => ?_)
  exact G_iret (pc := 109) dX11_cut_109
def fX1_tooLong_J27 (fu : Nat) (s : z_M) (a0 : Int) (a1 : Int) (a3 : Int) (t0 : Int) (t1 : Int) (r : z_M → Int → Int → z_O) (k : z_M → Int → z_O) : z_O := z_let (z_w (t0 + t1)) (fun x4 => z_let (z_w (a3 + 1)) (fun x5 => r s x4 x5))
theorem gX1_tooLong_J27 {l : Launch} {K : z_K} (hst : l.stackTraces = false) (fu : Nat) (s : z_M) (a0 : Int) (a1 : Int) (a3 : Int) (t0 : Int) (t1 : Int) (r : z_M → Int → Int → z_O) (k : z_M → Int → z_O) (hr : ∀ (s : z_M) (a2 : Int) (a3 : Int), G l K mX1_tooLong 5 123 0 0 4 [vR a0, vI a1, vI a2, vI a3] [] s (r s a2 a3)) (hk : ∀ (s : z_M) (a2 : Int), G l K mX1_tooLong 5 123 0 0 35 [vU, vU, vI a2, vU] [] s (k s a2)) : G l K mX1_tooLong 5 123 0 0 27 [vR a0, vI a1, vU, vI a3] [vI t1, vI t0] s (fX1_tooLong_J27 fu s a0 a1 a3 t0 t1 r k) := by
  unfold fX1_tooLong_J27
  refine G_iadd (pc := 27) dX1_tooLong_27 (fun x4 => ?_)
  refine G_istore_n (lv' := [vR a0, vI a1, vI x4, vI a3]) (pc := 28) dX1_tooLong_28 rfl ?_
  refine G_iinc (x := a3) (g := fun x5 => [vR a0, vI a1, vI x4, vI x5]) (pc := 29) dX1_tooLong_29 rfl (fun _ => rfl) (fun x5 => ?_)
  refine G_goto (tgt := 4) (pc := 32) dX1_tooLong_32 ?_
  exact hr s x4 x5
def fX1_tooLong_L4 (fu : Nat) (a0 : Int) (a1 : Int) : Nat → z_M → Int → Int → (z_M → Int → z_O) → z_O
  | 0, _, _, _, _ => none
  | F + 1, s, a2, a3, k => if z_ob a0 1 then z_let (s a0 6) (fun x1 => if (x1 : Int) ≤ a3 then (k s a2) else (if z_ob a0 1 then z_bI (fX1_longOfLine fu s a0 a3) (fun x3 s2 => if (x3 : Int) ≤ a1 then (fX1_tooLong_J27 fu s2 a0 a1 a3 a2 0 (fun w v2 v3 => fX1_tooLong_L4 fu a0 a1 F w v2 v3 k) k) else (fX1_tooLong_J27 fu s2 a0 a1 a3 a2 1 (fun w v2 v3 => fX1_tooLong_L4 fu a0 a1 F w v2 v3 k) k)) else none)) else none
theorem gX1_tooLong_L4 {l : Launch} {K : z_K} (hst : l.stackTraces = false) (fu : Nat) (a0 : Int) (a1 : Int) (k : z_M → Int → z_O) (hk : ∀ (s : z_M) (a2 : Int), G l K mX1_tooLong 5 123 0 0 35 [vU, vU, vI a2, vU] [] s (k s a2)) : ∀ (F : Nat) (s : z_M) (a2 : Int) (a3 : Int), G l K mX1_tooLong 5 123 0 0 4 [vR a0, vI a1, vI a2, vI a3] [] s (fX1_tooLong_L4 fu a0 a1 F s a2 a3 k) := by
  intro F
  induction F with
  | zero => exact fun s a2 a3 h => absurd rfl h
  | succ F ih =>
    intro s a2 a3
    rw [fX1_tooLong_L4]
    refine G_iload_n (x := a3) (pc := 4) dX1_tooLong_4 rfl ?_
    refine G_aload_n (x := a0) (pc := 5) dX1_tooLong_5 rfl ?_
    refine G_getI (j := 6) (pc := 6) dX1_tooLong_6 rfl z_CLX1 (by decide) z_wX1_44 (by decide) (fun x1 => ?_)
    refine G_icmp_ge (tgt := 35) (pc := 9) dX1_tooLong_9 ?_ ?_
    · refine G_fg (lv2 := [vU, vU, vI a2, vU]) ⟨Or.inl rfl, Or.inl rfl, Or.inr rfl, Or.inl rfl, trivial⟩ ?_
      exact hk s a2
    · refine G_iload_n (x := a2) (pc := 12) dX1_tooLong_12 rfl ?_
      refine G_aload_n (x := a0) (pc := 13) dX1_tooLong_13 rfl ?_
      refine G_iload_n (x := a3) (pc := 14) dX1_tooLong_14 rfl ?_
      refine G_callVI (as := [vI a3]) (st := [vI a2]) (c := 1) (bc2 := 0) (bs2 := 0) (pc := 15) dX1_tooLong_15 z_mX1_longOfLine z_vX1_longOfLine z_wX1_97 (gX1_longOfLine hst fu s a0 a3) rfl rfl (by decide) rfl rfl ⟨by decide, by decide, by decide, by decide, Nat.le_of_ble_eq_true rfl⟩ rfl (fun x3 s2 => ?_)
      refine G_iload_n (x := a1) (pc := 18) dX1_tooLong_18 rfl ?_
      refine G_icmp_le (tgt := 26) (pc := 19) dX1_tooLong_19 ?_ ?_
      · refine G_iconst (pc := 26) dX1_tooLong_26 ?_
        refine G_fg (lv2 := [vR a0, vI a1, vU, vI a3]) ⟨Or.inr rfl, Or.inr rfl, Or.inl rfl, Or.inr rfl, trivial⟩ ?_
        exact gX1_tooLong_J27 hst fu s2 a0 a1 a3 a2 0 _ _ (fun w v2 v3 => ih w v2 v3) hk
      · refine G_iconst (pc := 22) dX1_tooLong_22 ?_
        refine G_goto (tgt := 27) (pc := 23) dX1_tooLong_23 ?_
        refine G_fg (lv2 := [vR a0, vI a1, vU, vI a3]) ⟨Or.inr rfl, Or.inr rfl, Or.inl rfl, Or.inr rfl, trivial⟩ ?_
        exact gX1_tooLong_J27 hst fu s2 a0 a1 a3 a2 1 _ _ (fun w v2 v3 => ih w v2 v3) hk
def fX1_tooLong (fu : Nat) (s : z_M) (a0 : Int) (a1 : Int) : z_O := fX1_tooLong_L4 fu a0 a1 fu s 0 0 (fun s6 x7 => some (vI x7, s6))
theorem gX1_tooLong {l : Launch} {K : z_K} (hst : l.stackTraces = false) (fu : Nat) (s : z_M) (a0 : Int) (a1 : Int) : z_D l K mX1_tooLong 5 123 0 0 [vR a0, vI a1] s (fX1_tooLong fu s a0 a1) := by
  refine z_D_of (lv := [vR a0, vI a1, vU, vU]) hst z_mX1_tooLong rfl ?_ (Nat.le_of_ble_eq_true rfl) rfl
  unfold fX1_tooLong
  refine G_iconst (pc := 0) dX1_tooLong_0 ?_
  refine G_istore_n (lv' := [vR a0, vI a1, vI 0, vU]) (pc := 1) dX1_tooLong_1 rfl ?_
  refine G_iconst (pc := 2) dX1_tooLong_2 ?_
  refine G_istore_n (lv' := [vR a0, vI a1, vI 0, vI 0]) (pc := 3) dX1_tooLong_3 rfl ?_
  refine gX1_tooLong_L4 hst fu a0 a1 _ (fun s6 x7 => ?_) fu s 0 0
  refine G_iload_n (x := x7) (pc := 35) dX1_tooLong_35 rfl ?_
  exact G_iret (pc := 36) dX1_tooLong_36
def fX3_longest_L4 (fu : Nat) (a0 : Int) : Nat → z_M → Int → Int → (z_M → Int → z_O) → z_O
  | 0, _, _, _, _ => none
  | F + 1, s, a1, a2, k => if z_ob a0 3 then z_let (z_gr a0 3) (fun x1 => if z_ob x1 1 then z_let (s x1 6) (fun x2 => if (x2 : Int) ≤ a2 then (k s a1) else (if z_ob a0 3 then z_let (z_gr a0 11) (fun x3 => if z_ob x3 7 then z_bI (fX7_get fu s x3 a2) (fun x5 s4 => z_let (z_max a1 x5) (fun x6 => z_let (z_w (a2 + 1)) (fun x7 => fX3_longest_L4 fu a0 F s4 x6 x7 k))) else none) else none)) else none) else none
theorem gX3_longest_L4 {l : Launch} {K : z_K} (hst : l.stackTraces = false) (fu : Nat) (a0 : Int) (k : z_M → Int → z_O) (hk : ∀ (s : z_M) (a1 : Int), G l K mX3_longest 1 21 0 0 34 [vU, vI a1, vU] [] s (k s a1)) : ∀ (F : Nat) (s : z_M) (a1 : Int) (a2 : Int), G l K mX3_longest 1 21 0 0 4 [vR a0, vI a1, vI a2] [] s (fX3_longest_L4 fu a0 F s a1 a2 k) := by
  intro F
  induction F with
  | zero => exact fun s a1 a2 h => absurd rfl h
  | succ F ih =>
    intro s a1 a2
    rw [fX3_longest_L4]
    refine G_iload_n (x := a2) (pc := 4) dX3_longest_4 rfl ?_
    refine G_aload_n (x := a0) (pc := 5) dX3_longest_5 rfl ?_
    refine G_getR (j := 3) (pc := 6) dX3_longest_6 rfl z_CLX3 (by decide) z_wX3_59 (by decide) (fun x1 => ?_)
    refine G_getI (j := 6) (pc := 9) dX3_longest_9 rfl z_CLX1 (by decide) z_wX3_78 (by decide) (fun x2 => ?_)
    refine G_icmp_ge (tgt := 34) (pc := 12) dX3_longest_12 ?_ ?_
    · refine G_fg (lv2 := [vU, vI a1, vU]) ⟨Or.inl rfl, Or.inr rfl, Or.inl rfl, trivial⟩ ?_
      exact hk s a1
    · refine G_iload_n (x := a1) (pc := 15) dX3_longest_15 rfl ?_
      refine G_aload_n (x := a0) (pc := 16) dX3_longest_16 rfl ?_
      refine G_getR (j := 11) (pc := 17) dX3_longest_17 rfl z_CLX3 (by decide) z_wX3_32 (by decide) (fun x3 => ?_)
      refine G_iload_n (x := a2) (pc := 20) dX3_longest_20 rfl ?_
      refine G_callVI (as := [vI a2]) (st := [vI a1]) (c := 7) (bc2 := 0) (bs2 := 0) (pc := 21) dX3_longest_21 z_mX7_get z_vX7_get z_wX3_98 (gX7_get hst fu s x3 a2) rfl rfl (by decide) rfl rfl ⟨by decide, by decide, by decide, by decide, Nat.le_of_ble_eq_true rfl⟩ rfl (fun x5 s4 => ?_)
      refine G_mmax (pc := 24) dX3_longest_24 z_wX3_177 (fun x6 => ?_) (Nat.le_of_ble_eq_true rfl)
      refine G_istore_n (lv' := [vR a0, vI x6, vI a2]) (pc := 27) dX3_longest_27 rfl ?_
      refine G_iinc (x := a2) (g := fun x7 => [vR a0, vI x6, vI x7]) (pc := 28) dX3_longest_28 rfl (fun _ => rfl) (fun x7 => ?_)
      refine G_goto (tgt := 4) (pc := 31) dX3_longest_31 ?_
      exact ih s4 x6 x7
def fX3_longest (fu : Nat) (s : z_M) (a0 : Int) : z_O := fX3_longest_L4 fu a0 fu s 0 0 (fun s8 x9 => some (vI x9, s8))
theorem gX3_longest {l : Launch} {K : z_K} (hst : l.stackTraces = false) (fu : Nat) (s : z_M) (a0 : Int) : z_D l K mX3_longest 1 21 0 0 [vR a0] s (fX3_longest fu s a0) := by
  refine z_D_of (lv := [vR a0, vU, vU]) hst z_mX3_longest rfl ?_ (Nat.le_of_ble_eq_true rfl) rfl
  unfold fX3_longest
  refine G_iconst (pc := 0) dX3_longest_0 ?_
  refine G_istore_n (lv' := [vR a0, vI 0, vU]) (pc := 1) dX3_longest_1 rfl ?_
  refine G_iconst (pc := 2) dX3_longest_2 ?_
  refine G_istore_n (lv' := [vR a0, vI 0, vI 0]) (pc := 3) dX3_longest_3 rfl ?_
  refine gX3_longest_L4 hst fu a0 _ (fun s8 x9 => ?_) fu s 0 0
  refine G_iload_n (x := x9) (pc := 34) dX3_longest_34 rfl ?_
  exact G_iret (pc := 35) dX3_longest_35
def fX11_told (fu : Nat) (s : z_M) (a0 : Int) (a1 : Int) : z_O := if z_ob a0 11 then z_bN (fX11_needWithin fu s a0 a1 0 19) (fun s1 => if z_ob a0 11 then z_bN (fX11_refresh fu s1 a0) (fun s2 => if a1 = (0 : Int) then (if z_ob a0 11 then z_let (z_gr a0 6) (fun x3 => if z_ob x3 10 then z_let (s2 x3 16) (fun x4 => some (vL x4, s2)) else none) else none) else (if a1 = (1 : Int) then (if z_ob a0 11 then z_let (z_gr a0 2) (fun x5 => if z_ob x5 9 then z_let (s2 x5 6) (fun x6 => some (vL x6, s2)) else none) else none) else (if a1 = (2 : Int) then (if z_ob a0 11 then z_let (z_gr a0 2) (fun x7 => if z_ob x7 9 then z_let (s2 x7 7) (fun x8 => some (vL x8, s2)) else none) else none) else (if a1 = (3 : Int) then (if z_ob a0 11 then z_let (z_gr a0 8) (fun x9 => if z_ob x9 1 then z_let (s2 x9 6) (fun x10 => some (vL x10, s2)) else none) else none) else (if a1 = (4 : Int) then (if z_ob a0 11 then z_let (z_gr a0 10) (fun x11 => if z_ob x11 3 then z_bI (fX3_longest fu s2 x11) (fun x13 s12 => some (vL x13, s12)) else none) else none) else (if a1 = (5 : Int) then (if z_ob a0 11 then z_let (z_gr a0 8) (fun x14 => if z_ob a0 11 then z_let (z_gr a0 0) (fun x15 => if z_ob x15 7 then z_bI (fX7_get fu s2 x15 0) (fun x17 s16 => if z_ob x14 1 then z_bL (fX1_costs fu s16 x14 x17) (fun x19 s18 => some (vL x19, s18)) else none) else none) else none) else none) else (if a1 = (6 : Int) then (if z_ob a0 11 then z_let (z_gr a0 0) (fun x20 => z_let (z_w (a1 - 6)) (fun x21 => if z_ob x20 7 then z_bI (fX7_get fu s2 x20 x21) (fun x23 s22 => some (vL x23, s22)) else none)) else none) else (if a1 = (7 : Int) then (if z_ob a0 11 then z_let (z_gr a0 0) (fun x24 => z_let (z_w (a1 - 6)) (fun x25 => if z_ob x24 7 then z_bI (fX7_get fu s2 x24 x25) (fun x27 s26 => some (vL x27, s26)) else none)) else none) else (if a1 = (8 : Int) then (if z_ob a0 11 then z_let (z_gr a0 0) (fun x28 => z_let (z_w (a1 - 6)) (fun x29 => if z_ob x28 7 then z_bI (fX7_get fu s2 x28 x29) (fun x31 s30 => some (vL x31, s30)) else none)) else none) else (if a1 = (9 : Int) then (if z_ob a0 11 then z_let (z_gr a0 0) (fun x32 => z_let (z_w (a1 - 6)) (fun x33 => if z_ob x32 7 then z_bI (fX7_get fu s2 x32 x33) (fun x35 s34 => some (vL x35, s34)) else none)) else none) else (if a1 = (10 : Int) then (if z_ob a0 11 then z_let (z_gr a0 0) (fun x36 => z_let (z_w (a1 - 6)) (fun x37 => if z_ob x36 7 then z_bI (fX7_get fu s2 x36 x37) (fun x39 s38 => some (vL x39, s38)) else none)) else none) else (if a1 = (11 : Int) then (if z_ob a0 11 then z_let (z_gr a0 0) (fun x40 => z_let (z_w (a1 - 6)) (fun x41 => if z_ob x40 7 then z_bI (fX7_get fu s2 x40 x41) (fun x43 s42 => some (vL x43, s42)) else none)) else none) else (if a1 = (12 : Int) then (if z_ob a0 11 then z_let (z_gr a0 0) (fun x44 => z_let (z_w (a1 - 6)) (fun x45 => if z_ob x44 7 then z_bI (fX7_get fu s2 x44 x45) (fun x47 s46 => some (vL x47, s46)) else none)) else none) else (if a1 = (13 : Int) then (if z_ob a0 11 then z_let (z_gr a0 5) (fun x48 => if z_ob x48 2 then z_let (s2 x48 2) (fun x49 => some (vL x49, s2)) else none) else none) else (if a1 = (14 : Int) then (if z_ob a0 11 then z_let (s2 a0 12) (fun x50 => some (vL x50, s2)) else none) else (if a1 = (15 : Int) then (if z_ob a0 11 then z_let (z_gr a0 8) (fun x51 => if z_ob a0 11 then z_let (z_gr a0 0) (fun x52 => if z_ob x52 7 then z_bI (fX7_get fu s2 x52 0) (fun x54 s53 => if z_ob x51 1 then z_bI (fX1_tooLong fu s53 x51 x54) (fun x56 s55 => some (vL x56, s55)) else none) else none) else none) else none) else (if a1 = (16 : Int) then (if z_ob a0 11 then z_let (z_gr a0 0) (fun x57 => if z_ob x57 7 then z_bI (fX7_get fu s2 x57 7) (fun x59 s58 => some (vL x59, s58)) else none) else none) else (if a1 = (17 : Int) then (if z_ob a0 11 then z_let (z_gr a0 0) (fun x60 => if z_ob x60 7 then z_bI (fX7_get fu s2 x60 8) (fun x62 s61 => some (vL x62, s61)) else none) else none) else (if a1 = (18 : Int) then (if z_ob a0 11 then z_let (z_gr a0 6) (fun x63 => if z_ob x63 10 then z_let (s2 x63 17) (fun x64 => some (vL x64, s2)) else none) else none) else (if a1 = (19 : Int) then (if z_ob a0 11 then z_let (z_gr a0 6) (fun x65 => if z_ob x65 10 then z_let (s2 x65 18) (fun x66 => some (vL x66, s2)) else none) else none) else (if z_ob a0 11 then z_let (z_gr a0 0) (fun x67 => z_let (z_w (a1 - 6)) (fun x68 => if z_ob x67 7 then z_bI (fX7_get fu s2 x67 x68) (fun x70 s69 => some (vL x70, s69)) else none)) else none))))))))))))))))))))) else none) else none
theorem gX11_told {l : Launch} {K : z_K} (hst : l.stackTraces = false) (fu : Nat) (s : z_M) (a0 : Int) (a1 : Int) : z_D l K mX11_told 7 172 1 6 [vR a0, vI a1] s (fX11_told fu s a0 a1) := by
  refine z_D_of (lv := [vR a0, vI a1]) hst z_mX11_told rfl ?_ (Nat.le_of_ble_eq_true rfl) rfl
  unfold fX11_told
  refine G_aload_n (x := a0) (pc := 0) dX11_told_0 rfl ?_
  refine G_iload_n (x := a1) (pc := 1) dX11_told_1 rfl ?_
  refine G_iconst (pc := 2) dX11_told_2 ?_
  refine G_bipush (pc := 3) dX11_told_3 ?_
  refine G_callVN (as := [vI a1, vI 0, vI 19]) (st := []) (c := 11) (bc2 := 0) (bs2 := 0) (pc := 5) dX11_told_5 z_mX11_needWithin z_vX11_needWithin z_wX11_113 (gX11_needWithin hst fu s a0 a1 0 19) rfl rfl (by decide) rfl rfl ⟨by decide, by decide, by decide, by decide, Nat.le_of_ble_eq_true rfl⟩ rfl (fun s1 => ?_)
  refine G_aload_n (x := a0) (pc := 8) dX11_told_8 rfl ?_
  refine G_callVN (as := []) (st := []) (c := 11) (bc2 := 0) (bs2 := 0) (pc := 9) dX11_told_9 z_mX11_refresh z_vX11_refresh z_wX11_124 (gX11_refresh hst fu s1 a0) rfl rfl (by decide) rfl rfl ⟨by decide, by decide, by decide, by decide, Nat.le_of_ble_eq_true rfl⟩ rfl (fun s2 => ?_)
  refine G_iload_n (x := a1) (pc := 12) dX11_told_12 rfl ?_
  refine G_ite (fun h0 => ?_) (fun h0 => ?_)
  · refine G_tableIn (off := 95) (tgt := 108) (pc := 13) dX11_told_13 (by omega) (by rw [h0]; rfl) (by decide) ?_
    refine G_aload_n (x := a0) (pc := 108) dX11_told_108 rfl ?_
    refine G_getR (j := 6) (pc := 109) dX11_told_109 rfl z_CLX11 (by decide) z_wX11_56 (by decide) (fun x3 => ?_)
    refine G_getI (j := 16) (pc := 112) dX11_told_112 rfl z_CLX10 (by decide) z_wX11_127 (by decide) (fun x4 => ?_)
    refine G_i2l (pc := 115) dX11_told_115 ?_
    exact G_lret (pc := 116) dX11_told_116
  · refine G_ite (fun h1 => ?_) (fun h1 => ?_)
    · refine G_tableIn (off := 104) (tgt := 117) (pc := 13) dX11_told_13 (by omega) (by rw [h1]; rfl) (by decide) ?_
      refine G_aload_n (x := a0) (pc := 117) dX11_told_117 rfl ?_
      refine G_getR (j := 2) (pc := 118) dX11_told_118 rfl z_CLX11 (by decide) z_wX11_28 (by decide) (fun x5 => ?_)
      refine G_getI (j := 6) (pc := 121) dX11_told_121 rfl z_CLX9 (by decide) z_wX11_172 (by decide) (fun x6 => ?_)
      refine G_i2l (pc := 124) dX11_told_124 ?_
      exact G_lret (pc := 125) dX11_told_125
    · refine G_ite (fun h2 => ?_) (fun h2 => ?_)
      · refine G_tableIn (off := 113) (tgt := 126) (pc := 13) dX11_told_13 (by omega) (by rw [h2]; rfl) (by decide) ?_
        refine G_aload_n (x := a0) (pc := 126) dX11_told_126 rfl ?_
        refine G_getR (j := 2) (pc := 127) dX11_told_127 rfl z_CLX11 (by decide) z_wX11_28 (by decide) (fun x7 => ?_)
        refine G_getI (j := 7) (pc := 130) dX11_told_130 rfl z_CLX9 (by decide) z_wX11_173 (by decide) (fun x8 => ?_)
        refine G_i2l (pc := 133) dX11_told_133 ?_
        exact G_lret (pc := 134) dX11_told_134
      · refine G_ite (fun h3 => ?_) (fun h3 => ?_)
        · refine G_tableIn (off := 122) (tgt := 135) (pc := 13) dX11_told_13 (by omega) (by rw [h3]; rfl) (by decide) ?_
          refine G_aload_n (x := a0) (pc := 135) dX11_told_135 rfl ?_
          refine G_getR (j := 8) (pc := 136) dX11_told_136 rfl z_CLX11 (by decide) z_wX11_74 (by decide) (fun x9 => ?_)
          refine G_getI (j := 6) (pc := 139) dX11_told_139 rfl z_CLX1 (by decide) z_wX11_176 (by decide) (fun x10 => ?_)
          refine G_i2l (pc := 142) dX11_told_142 ?_
          exact G_lret (pc := 143) dX11_told_143
        · refine G_ite (fun h4 => ?_) (fun h4 => ?_)
          · refine G_tableIn (off := 131) (tgt := 144) (pc := 13) dX11_told_13 (by omega) (by rw [h4]; rfl) (by decide) ?_
            refine G_aload_n (x := a0) (pc := 144) dX11_told_144 rfl ?_
            refine G_getR (j := 10) (pc := 145) dX11_told_145 rfl z_CLX11 (by decide) z_wX11_86 (by decide) (fun x11 => ?_)
            refine G_callVI (as := []) (st := []) (c := 3) (bc2 := 0) (bs2 := 0) (pc := 148) dX11_told_148 z_mX3_longest z_vX3_longest z_wX11_177 (gX3_longest hst fu s2 x11) rfl rfl (by decide) rfl rfl ⟨by decide, by decide, by decide, by decide, Nat.le_of_ble_eq_true rfl⟩ rfl (fun x13 s12 => ?_)
            refine G_i2l (pc := 151) dX11_told_151 ?_
            exact G_lret (pc := 152) dX11_told_152
          · refine G_ite (fun h5 => ?_) (fun h5 => ?_)
            · refine G_tableIn (off := 140) (tgt := 153) (pc := 13) dX11_told_13 (by omega) (by rw [h5]; rfl) (by decide) ?_
              refine G_aload_n (x := a0) (pc := 153) dX11_told_153 rfl ?_
              refine G_getR (j := 8) (pc := 154) dX11_told_154 rfl z_CLX11 (by decide) z_wX11_74 (by decide) (fun x14 => ?_)
              refine G_aload_n (x := a0) (pc := 157) dX11_told_157 rfl ?_
              refine G_getR (j := 0) (pc := 158) dX11_told_158 rfl z_CLX11 (by decide) z_wX11_18 (by decide) (fun x15 => ?_)
              refine G_iconst (pc := 161) dX11_told_161 ?_
              refine G_callVI (as := [vI 0]) (st := [vR x14]) (c := 7) (bc2 := 0) (bs2 := 0) (pc := 162) dX11_told_162 z_mX7_get z_vX7_get z_wX11_143 (gX7_get hst fu s2 x15 0) rfl rfl (by decide) rfl rfl ⟨by decide, by decide, by decide, by decide, Nat.le_of_ble_eq_true rfl⟩ rfl (fun x17 s16 => ?_)
              refine G_callVL (as := [vI x17]) (st := []) (c := 1) (bc2 := 0) (bs2 := 0) (pc := 165) dX11_told_165 z_mX1_costs z_vX1_costs z_wX11_181 (gX1_costs hst fu s16 x14 x17) rfl rfl (by decide) rfl rfl ⟨by decide, by decide, by decide, by decide, Nat.le_of_ble_eq_true rfl⟩ rfl (fun x19 s18 => ?_)
              exact G_lret (pc := 168) dX11_told_168
            · refine G_ite (fun h6 => ?_) (fun h6 => ?_)
              · refine G_tableIn (off := 228) (tgt := 241) (pc := 13) dX11_told_13 (by omega) (by rw [h6]; rfl) (by decide) ?_
                refine G_aload_n (x := a0) (pc := 241) dX11_told_241 rfl ?_
                refine G_getR (j := 0) (pc := 242) dX11_told_242 rfl z_CLX11 (by decide) z_wX11_18 (by decide) (fun x20 => ?_)
                refine G_iload_n (x := a1) (pc := 245) dX11_told_245 rfl ?_
                refine G_bipush (pc := 246) dX11_told_246 ?_
                refine G_isub (pc := 248) dX11_told_248 (fun x21 => ?_)
                refine G_callVI (as := [vI x21]) (st := []) (c := 7) (bc2 := 0) (bs2 := 0) (pc := 249) dX11_told_249 z_mX7_get z_vX7_get z_wX11_143 (gX7_get hst fu s2 x20 x21) rfl rfl (by decide) rfl rfl ⟨by decide, by decide, by decide, by decide, Nat.le_of_ble_eq_true rfl⟩ rfl (fun x23 s22 => ?_)
                refine G_i2l (pc := 252) dX11_told_252 ?_
                exact G_lret (pc := 253) dX11_told_253
              · refine G_ite (fun h7 => ?_) (fun h7 => ?_)
                · refine G_tableIn (off := 228) (tgt := 241) (pc := 13) dX11_told_13 (by omega) (by rw [h7]; rfl) (by decide) ?_
                  refine G_aload_n (x := a0) (pc := 241) dX11_told_241 rfl ?_
                  refine G_getR (j := 0) (pc := 242) dX11_told_242 rfl z_CLX11 (by decide) z_wX11_18 (by decide) (fun x24 => ?_)
                  refine G_iload_n (x := a1) (pc := 245) dX11_told_245 rfl ?_
                  refine G_bipush (pc := 246) dX11_told_246 ?_
                  refine G_isub (pc := 248) dX11_told_248 (fun x25 => ?_)
                  refine G_callVI (as := [vI x25]) (st := []) (c := 7) (bc2 := 0) (bs2 := 0) (pc := 249) dX11_told_249 z_mX7_get z_vX7_get z_wX11_143 (gX7_get hst fu s2 x24 x25) rfl rfl (by decide) rfl rfl ⟨by decide, by decide, by decide, by decide, Nat.le_of_ble_eq_true rfl⟩ rfl (fun x27 s26 => ?_)
                  refine G_i2l (pc := 252) dX11_told_252 ?_
                  exact G_lret (pc := 253) dX11_told_253
                · refine G_ite (fun h8 => ?_) (fun h8 => ?_)
                  · refine G_tableIn (off := 228) (tgt := 241) (pc := 13) dX11_told_13 (by omega) (by rw [h8]; rfl) (by decide) ?_
                    refine G_aload_n (x := a0) (pc := 241) dX11_told_241 rfl ?_
                    refine G_getR (j := 0) (pc := 242) dX11_told_242 rfl z_CLX11 (by decide) z_wX11_18 (by decide) (fun x28 => ?_)
                    refine G_iload_n (x := a1) (pc := 245) dX11_told_245 rfl ?_
                    refine G_bipush (pc := 246) dX11_told_246 ?_
                    refine G_isub (pc := 248) dX11_told_248 (fun x29 => ?_)
                    refine G_callVI (as := [vI x29]) (st := []) (c := 7) (bc2 := 0) (bs2 := 0) (pc := 249) dX11_told_249 z_mX7_get z_vX7_get z_wX11_143 (gX7_get hst fu s2 x28 x29) rfl rfl (by decide) rfl rfl ⟨by decide, by decide, by decide, by decide, Nat.le_of_ble_eq_true rfl⟩ rfl (fun x31 s30 => ?_)
                    refine G_i2l (pc := 252) dX11_told_252 ?_
                    exact G_lret (pc := 253) dX11_told_253
                  · refine G_ite (fun h9 => ?_) (fun h9 => ?_)
                    · refine G_tableIn (off := 228) (tgt := 241) (pc := 13) dX11_told_13 (by omega) (by rw [h9]; rfl) (by decide) ?_
                      refine G_aload_n (x := a0) (pc := 241) dX11_told_241 rfl ?_
                      refine G_getR (j := 0) (pc := 242) dX11_told_242 rfl z_CLX11 (by decide) z_wX11_18 (by decide) (fun x32 => ?_)
                      refine G_iload_n (x := a1) (pc := 245) dX11_told_245 rfl ?_
                      refine G_bipush (pc := 246) dX11_told_246 ?_
                      refine G_isub (pc := 248) dX11_told_248 (fun x33 => ?_)
                      refine G_callVI (as := [vI x33]) (st := []) (c := 7) (bc2 := 0) (bs2 := 0) (pc := 249) dX11_told_249 z_mX7_get z_vX7_get z_wX11_143 (gX7_get hst fu s2 x32 x33) rfl rfl (by decide) rfl rfl ⟨by decide, by decide, by decide, by decide, Nat.le_of_ble_eq_true rfl⟩ rfl (fun x35 s34 => ?_)
                      refine G_i2l (pc := 252) dX11_told_252 ?_
                      exact G_lret (pc := 253) dX11_told_253
                    · refine G_ite (fun h10 => ?_) (fun h10 => ?_)
                      · refine G_tableIn (off := 228) (tgt := 241) (pc := 13) dX11_told_13 (by omega) (by rw [h10]; rfl) (by decide) ?_
                        refine G_aload_n (x := a0) (pc := 241) dX11_told_241 rfl ?_
                        refine G_getR (j := 0) (pc := 242) dX11_told_242 rfl z_CLX11 (by decide) z_wX11_18 (by decide) (fun x36 => ?_)
                        refine G_iload_n (x := a1) (pc := 245) dX11_told_245 rfl ?_
                        refine G_bipush (pc := 246) dX11_told_246 ?_
                        refine G_isub (pc := 248) dX11_told_248 (fun x37 => ?_)
                        refine G_callVI (as := [vI x37]) (st := []) (c := 7) (bc2 := 0) (bs2 := 0) (pc := 249) dX11_told_249 z_mX7_get z_vX7_get z_wX11_143 (gX7_get hst fu s2 x36 x37) rfl rfl (by decide) rfl rfl ⟨by decide, by decide, by decide, by decide, Nat.le_of_ble_eq_true rfl⟩ rfl (fun x39 s38 => ?_)
                        refine G_i2l (pc := 252) dX11_told_252 ?_
                        exact G_lret (pc := 253) dX11_told_253
                      · refine G_ite (fun h11 => ?_) (fun h11 => ?_)
                        · refine G_tableIn (off := 228) (tgt := 241) (pc := 13) dX11_told_13 (by omega) (by rw [h11]; rfl) (by decide) ?_
                          refine G_aload_n (x := a0) (pc := 241) dX11_told_241 rfl ?_
                          refine G_getR (j := 0) (pc := 242) dX11_told_242 rfl z_CLX11 (by decide) z_wX11_18 (by decide) (fun x40 => ?_)
                          refine G_iload_n (x := a1) (pc := 245) dX11_told_245 rfl ?_
                          refine G_bipush (pc := 246) dX11_told_246 ?_
                          refine G_isub (pc := 248) dX11_told_248 (fun x41 => ?_)
                          refine G_callVI (as := [vI x41]) (st := []) (c := 7) (bc2 := 0) (bs2 := 0) (pc := 249) dX11_told_249 z_mX7_get z_vX7_get z_wX11_143 (gX7_get hst fu s2 x40 x41) rfl rfl (by decide) rfl rfl ⟨by decide, by decide, by decide, by decide, Nat.le_of_ble_eq_true rfl⟩ rfl (fun x43 s42 => ?_)
                          refine G_i2l (pc := 252) dX11_told_252 ?_
                          exact G_lret (pc := 253) dX11_told_253
                        · refine G_ite (fun h12 => ?_) (fun h12 => ?_)
                          · refine G_tableIn (off := 228) (tgt := 241) (pc := 13) dX11_told_13 (by omega) (by rw [h12]; rfl) (by decide) ?_
                            refine G_aload_n (x := a0) (pc := 241) dX11_told_241 rfl ?_
                            refine G_getR (j := 0) (pc := 242) dX11_told_242 rfl z_CLX11 (by decide) z_wX11_18 (by decide) (fun x44 => ?_)
                            refine G_iload_n (x := a1) (pc := 245) dX11_told_245 rfl ?_
                            refine G_bipush (pc := 246) dX11_told_246 ?_
                            refine G_isub (pc := 248) dX11_told_248 (fun x45 => ?_)
                            refine G_callVI (as := [vI x45]) (st := []) (c := 7) (bc2 := 0) (bs2 := 0) (pc := 249) dX11_told_249 z_mX7_get z_vX7_get z_wX11_143 (gX7_get hst fu s2 x44 x45) rfl rfl (by decide) rfl rfl ⟨by decide, by decide, by decide, by decide, Nat.le_of_ble_eq_true rfl⟩ rfl (fun x47 s46 => ?_)
                            refine G_i2l (pc := 252) dX11_told_252 ?_
                            exact G_lret (pc := 253) dX11_told_253
                          · refine G_ite (fun h13 => ?_) (fun h13 => ?_)
                            · refine G_tableIn (off := 156) (tgt := 169) (pc := 13) dX11_told_13 (by omega) (by rw [h13]; rfl) (by decide) ?_
                              refine G_aload_n (x := a0) (pc := 169) dX11_told_169 rfl ?_
                              refine G_getR (j := 5) (pc := 170) dX11_told_170 rfl z_CLX11 (by decide) z_wX11_47 (by decide) (fun x48 => ?_)
                              refine G_getI (j := 2) (pc := 173) dX11_told_173 rfl z_CLX2 (by decide) z_wX11_185 (by decide) (fun x49 => ?_)
                              refine G_i2l (pc := 176) dX11_told_176 ?_
                              exact G_lret (pc := 177) dX11_told_177
                            · refine G_ite (fun h14 => ?_) (fun h14 => ?_)
                              · refine G_tableIn (off := 165) (tgt := 178) (pc := 13) dX11_told_13 (by omega) (by rw [h14]; rfl) (by decide) ?_
                                refine G_aload_n (x := a0) (pc := 178) dX11_told_178 rfl ?_
                                refine G_getI (j := 12) (pc := 179) dX11_told_179 rfl z_CLX11 (by decide) z_wX11_107 (by decide) (fun x50 => ?_)
                                refine G_i2l (pc := 182) dX11_told_182 ?_
                                exact G_lret (pc := 183) dX11_told_183
                              · refine G_ite (fun h15 => ?_) (fun h15 => ?_)
                                · refine G_tableIn (off := 171) (tgt := 184) (pc := 13) dX11_told_13 (by omega) (by rw [h15]; rfl) (by decide) ?_
                                  refine G_aload_n (x := a0) (pc := 184) dX11_told_184 rfl ?_
                                  refine G_getR (j := 8) (pc := 185) dX11_told_185 rfl z_CLX11 (by decide) z_wX11_74 (by decide) (fun x51 => ?_)
                                  refine G_aload_n (x := a0) (pc := 188) dX11_told_188 rfl ?_
                                  refine G_getR (j := 0) (pc := 189) dX11_told_189 rfl z_CLX11 (by decide) z_wX11_18 (by decide) (fun x52 => ?_)
                                  refine G_iconst (pc := 192) dX11_told_192 ?_
                                  refine G_callVI (as := [vI 0]) (st := [vR x51]) (c := 7) (bc2 := 0) (bs2 := 0) (pc := 193) dX11_told_193 z_mX7_get z_vX7_get z_wX11_143 (gX7_get hst fu s2 x52 0) rfl rfl (by decide) rfl rfl ⟨by decide, by decide, by decide, by decide, Nat.le_of_ble_eq_true rfl⟩ rfl (fun x54 s53 => ?_)
                                  refine G_callVI (as := [vI x54]) (st := []) (c := 1) (bc2 := 0) (bs2 := 0) (pc := 196) dX11_told_196 z_mX1_tooLong z_vX1_tooLong z_wX11_186 (gX1_tooLong hst fu s53 x51 x54) rfl rfl (by decide) rfl rfl ⟨by decide, by decide, by decide, by decide, Nat.le_of_ble_eq_true rfl⟩ rfl (fun x56 s55 => ?_)
                                  refine G_i2l (pc := 199) dX11_told_199 ?_
                                  exact G_lret (pc := 200) dX11_told_200
                                · refine G_ite (fun h16 => ?_) (fun h16 => ?_)
                                  · refine G_tableIn (off := 188) (tgt := 201) (pc := 13) dX11_told_13 (by omega) (by rw [h16]; rfl) (by decide) ?_
                                    refine G_aload_n (x := a0) (pc := 201) dX11_told_201 rfl ?_
                                    refine G_getR (j := 0) (pc := 202) dX11_told_202 rfl z_CLX11 (by decide) z_wX11_18 (by decide) (fun x57 => ?_)
                                    refine G_bipush (pc := 205) dX11_told_205 ?_
                                    refine G_callVI (as := [vI 7]) (st := []) (c := 7) (bc2 := 0) (bs2 := 0) (pc := 207) dX11_told_207 z_mX7_get z_vX7_get z_wX11_143 (gX7_get hst fu s2 x57 7) rfl rfl (by decide) rfl rfl ⟨by decide, by decide, by decide, by decide, Nat.le_of_ble_eq_true rfl⟩ rfl (fun x59 s58 => ?_)
                                    refine G_i2l (pc := 210) dX11_told_210 ?_
                                    exact G_lret (pc := 211) dX11_told_211
                                  · refine G_ite (fun h17 => ?_) (fun h17 => ?_)
                                    · refine G_tableIn (off := 199) (tgt := 212) (pc := 13) dX11_told_13 (by omega) (by rw [h17]; rfl) (by decide) ?_
                                      refine G_aload_n (x := a0) (pc := 212) dX11_told_212 rfl ?_
                                      refine G_getR (j := 0) (pc := 213) dX11_told_213 rfl z_CLX11 (by decide) z_wX11_18 (by decide) (fun x60 => ?_)
                                      refine G_bipush (pc := 216) dX11_told_216 ?_
                                      refine G_callVI (as := [vI 8]) (st := []) (c := 7) (bc2 := 0) (bs2 := 0) (pc := 218) dX11_told_218 z_mX7_get z_vX7_get z_wX11_143 (gX7_get hst fu s2 x60 8) rfl rfl (by decide) rfl rfl ⟨by decide, by decide, by decide, by decide, Nat.le_of_ble_eq_true rfl⟩ rfl (fun x62 s61 => ?_)
                                      refine G_i2l (pc := 221) dX11_told_221 ?_
                                      exact G_lret (pc := 222) dX11_told_222
                                    · refine G_ite (fun h18 => ?_) (fun h18 => ?_)
                                      · refine G_tableIn (off := 210) (tgt := 223) (pc := 13) dX11_told_13 (by omega) (by rw [h18]; rfl) (by decide) ?_
                                        refine G_aload_n (x := a0) (pc := 223) dX11_told_223 rfl ?_
                                        refine G_getR (j := 6) (pc := 224) dX11_told_224 rfl z_CLX11 (by decide) z_wX11_56 (by decide) (fun x63 => ?_)
                                        refine G_getI (j := 17) (pc := 227) dX11_told_227 rfl z_CLX10 (by decide) z_wX11_189 (by decide) (fun x64 => ?_)
                                        refine G_i2l (pc := 230) dX11_told_230 ?_
                                        exact G_lret (pc := 231) dX11_told_231
                                      · refine G_ite (fun h19 => ?_) (fun h19 => ?_)
                                        · refine G_tableIn (off := 219) (tgt := 232) (pc := 13) dX11_told_13 (by omega) (by rw [h19]; rfl) (by decide) ?_
                                          refine G_aload_n (x := a0) (pc := 232) dX11_told_232 rfl ?_
                                          refine G_getR (j := 6) (pc := 233) dX11_told_233 rfl z_CLX11 (by decide) z_wX11_56 (by decide) (fun x65 => ?_)
                                          refine G_getI (j := 18) (pc := 236) dX11_told_236 rfl z_CLX10 (by decide) z_wX11_192 (by decide) (fun x66 => ?_)
                                          refine G_i2l (pc := 239) dX11_told_239 ?_
                                          exact G_lret (pc := 240) dX11_told_240
                                        · refine G_tableOut (tgt := 241) (pc := 13) dX11_told_13 (by omega) ?_
                                          refine G_aload_n (x := a0) (pc := 241) dX11_told_241 rfl ?_
                                          refine G_getR (j := 0) (pc := 242) dX11_told_242 rfl z_CLX11 (by decide) z_wX11_18 (by decide) (fun x67 => ?_)
                                          refine G_iload_n (x := a1) (pc := 245) dX11_told_245 rfl ?_
                                          refine G_bipush (pc := 246) dX11_told_246 ?_
                                          refine G_isub (pc := 248) dX11_told_248 (fun x68 => ?_)
                                          refine G_callVI (as := [vI x68]) (st := []) (c := 7) (bc2 := 0) (bs2 := 0) (pc := 249) dX11_told_249 z_mX7_get z_vX7_get z_wX11_143 (gX7_get hst fu s2 x67 x68) rfl rfl (by decide) rfl rfl ⟨by decide, by decide, by decide, by decide, Nat.le_of_ble_eq_true rfl⟩ rfl (fun x70 s69 => ?_)
                                          refine G_i2l (pc := 252) dX11_told_252 ?_
                                          exact G_lret (pc := 253) dX11_told_253
def fX11_unit (fu : Nat) (s : z_M) (a0 : Int) (a1 : Int) (a2 : Int) : z_O := if z_ob a0 11 then z_bN (fX11_refresh fu s a0) (fun s1 => if z_ob a0 11 then z_let (z_gr a0 6) (fun x2 => if z_ob x2 10 then z_let (s1 x2 16) (fun x3 => if z_ob a0 11 then z_bN (fX11_needExisting fu s1 a0 a1 x3) (fun s4 => if z_ob a0 11 then z_bN (fX11_needWithin fu s4 a0 a2 0 7) (fun s5 => if a2 = (0 : Int) then (if z_ob a0 11 then z_let (z_gr a0 6) (fun x6 => if z_ob x6 10 then z_let (z_gr x6 2) (fun x7 => if z_ob x7 7 then z_bI (fX7_get fu s5 x7 a1) (fun x9 s8 => some (vI x9, s8)) else none) else none) else none) else (if a2 = (1 : Int) then (if z_ob a0 11 then z_let (z_gr a0 6) (fun x10 => if z_ob x10 10 then z_let (z_gr x10 3) (fun x11 => if z_ob x11 7 then z_bI (fX7_get fu s5 x11 a1) (fun x13 s12 => some (vI x13, s12)) else none) else none) else none) else (if a2 = (2 : Int) then (if z_ob a0 11 then z_let (z_gr a0 6) (fun x14 => if z_ob x14 10 then z_let (z_gr x14 4) (fun x15 => if z_ob x15 7 then z_bI (fX7_get fu s5 x15 a1) (fun x17 s16 => some (vI x17, s16)) else none) else none) else none) else (if a2 = (3 : Int) then (if z_ob a0 11 then z_let (z_gr a0 10) (fun x18 => if z_ob x18 3 then z_let (z_gr x18 8) (fun x19 => if z_ob x19 7 then z_bI (fX7_get fu s5 x19 a1) (fun x21 s20 => some (vI x21, s20)) else none) else none) else none) else (if a2 = (4 : Int) then (if z_ob a0 11 then z_let (z_gr a0 10) (fun x22 => if z_ob x22 3 then z_let (z_gr x22 6) (fun x23 => if z_ob x23 7 then z_bI (fX7_get fu s5 x23 a1) (fun x25 s24 => some (vI x25, s24)) else none) else none) else none) else (if a2 = (5 : Int) then (if z_ob a0 11 then z_let (z_gr a0 10) (fun x26 => if z_ob x26 3 then z_let (z_gr x26 7) (fun x27 => if z_ob x27 7 then z_bI (fX7_get fu s5 x27 a1) (fun x29 s28 => some (vI x29, s28)) else none) else none) else none) else (if a2 = (6 : Int) then (if z_ob a0 11 then z_let (z_gr a0 6) (fun x30 => if z_ob x30 10 then z_let (z_gr x30 6) (fun x31 => if z_ob x31 7 then z_bI (fX7_get fu s5 x31 a1) (fun x33 s32 => some (vI x33, s32)) else none) else none) else none) else (if z_ob a0 11 then z_let (z_gr a0 10) (fun x34 => if z_ob x34 3 then z_let (z_gr x34 9) (fun x35 => if z_ob x35 7 then z_bI (fX7_get fu s5 x35 a1) (fun x37 s36 => some (vI x37, s36)) else none) else none) else none)))))))) else none) else none) else none) else none) else none
theorem gX11_unit {l : Launch} {K : z_K} (hst : l.stackTraces = false) (fu : Nat) (s : z_M) (a0 : Int) (a1 : Int) (a2 : Int) : z_D l K mX11_unit 7 172 2 12 [vR a0, vI a1, vI a2] s (fX11_unit fu s a0 a1 a2) := by
  refine z_D_of (lv := [vR a0, vI a1, vI a2]) hst z_mX11_unit rfl ?_ (Nat.le_of_ble_eq_true rfl) rfl
  unfold fX11_unit
  refine G_aload_n (x := a0) (pc := 0) dX11_unit_0 rfl ?_
  refine G_callVN (as := []) (st := []) (c := 11) (bc2 := 2) (bs2 := 12) (pc := 1) dX11_unit_1 z_mX11_refresh z_vX11_refresh z_wX11_124 (gX11_refresh hst fu s a0) rfl rfl (by decide) rfl rfl ⟨by decide, by decide, by decide, by decide, Nat.le_of_ble_eq_true rfl⟩ rfl (fun s1 => ?_)
  refine G_aload_n (x := a0) (pc := 4) dX11_unit_4 rfl ?_
  refine G_iload_n (x := a1) (pc := 5) dX11_unit_5 rfl ?_
  refine G_aload_n (x := a0) (pc := 6) dX11_unit_6 rfl ?_
  refine G_getR (j := 6) (pc := 7) dX11_unit_7 rfl z_CLX11 (by decide) z_wX11_56 (by decide) (fun x2 => ?_)
  refine G_getI (j := 16) (pc := 10) dX11_unit_10 rfl z_CLX10 (by decide) z_wX11_127 (by decide) (fun x3 => ?_)
  refine G_callVN (as := [vI a1, vI x3]) (st := []) (c := 11) (bc2 := 1) (bs2 := 6) (pc := 13) dX11_unit_13 z_mX11_needExisting z_vX11_needExisting z_wX11_153 (gX11_needExisting hst fu s1 a0 a1 x3) rfl rfl (by decide) rfl rfl ⟨by decide, by decide, by decide, by decide, Nat.le_of_ble_eq_true rfl⟩ rfl (fun s4 => ?_)
  refine G_aload_n (x := a0) (pc := 16) dX11_unit_16 rfl ?_
  refine G_iload_n (x := a2) (pc := 17) dX11_unit_17 rfl ?_
  refine G_iconst (pc := 18) dX11_unit_18 ?_
  refine G_bipush (pc := 19) dX11_unit_19 ?_
  refine G_callVN (as := [vI a2, vI 0, vI 7]) (st := []) (c := 11) (bc2 := 0) (bs2 := 0) (pc := 21) dX11_unit_21 z_mX11_needWithin z_vX11_needWithin z_wX11_113 (gX11_needWithin hst fu s4 a0 a2 0 7) rfl rfl (by decide) rfl rfl ⟨by decide, by decide, by decide, by decide, Nat.le_of_ble_eq_true rfl⟩ rfl (fun s5 => ?_)
  refine G_iload_n (x := a2) (pc := 24) dX11_unit_24 rfl ?_
  refine G_ite (fun h0 => ?_) (fun h0 => ?_)
  · refine G_tableIn (off := 43) (tgt := 68) (pc := 25) dX11_unit_25 (by omega) (by rw [h0]; rfl) (by decide) ?_
    refine G_aload_n (x := a0) (pc := 68) dX11_unit_68 rfl ?_
    refine G_getR (j := 6) (pc := 69) dX11_unit_69 rfl z_CLX11 (by decide) z_wX11_56 (by decide) (fun x6 => ?_)
    refine G_getR (j := 2) (pc := 72) dX11_unit_72 rfl z_CLX10 (by decide) z_wX11_195 (by decide) (fun x7 => ?_)
    refine G_iload_n (x := a1) (pc := 75) dX11_unit_75 rfl ?_
    refine G_callVI (as := [vI a1]) (st := []) (c := 7) (bc2 := 0) (bs2 := 0) (pc := 76) dX11_unit_76 z_mX7_get z_vX7_get z_wX11_143 (gX7_get hst fu s5 x7 a1) rfl rfl (by decide) rfl rfl ⟨by decide, by decide, by decide, by decide, Nat.le_of_ble_eq_true rfl⟩ rfl (fun x9 s8 => ?_)
    exact G_iret (pc := 79) dX11_unit_79
  · refine G_ite (fun h1 => ?_) (fun h1 => ?_)
    · refine G_tableIn (off := 55) (tgt := 80) (pc := 25) dX11_unit_25 (by omega) (by rw [h1]; rfl) (by decide) ?_
      refine G_aload_n (x := a0) (pc := 80) dX11_unit_80 rfl ?_
      refine G_getR (j := 6) (pc := 81) dX11_unit_81 rfl z_CLX11 (by decide) z_wX11_56 (by decide) (fun x10 => ?_)
      refine G_getR (j := 3) (pc := 84) dX11_unit_84 rfl z_CLX10 (by decide) z_wX11_159 (by decide) (fun x11 => ?_)
      refine G_iload_n (x := a1) (pc := 87) dX11_unit_87 rfl ?_
      refine G_callVI (as := [vI a1]) (st := []) (c := 7) (bc2 := 0) (bs2 := 0) (pc := 88) dX11_unit_88 z_mX7_get z_vX7_get z_wX11_143 (gX7_get hst fu s5 x11 a1) rfl rfl (by decide) rfl rfl ⟨by decide, by decide, by decide, by decide, Nat.le_of_ble_eq_true rfl⟩ rfl (fun x13 s12 => ?_)
      exact G_iret (pc := 91) dX11_unit_91
    · refine G_ite (fun h2 => ?_) (fun h2 => ?_)
      · refine G_tableIn (off := 67) (tgt := 92) (pc := 25) dX11_unit_25 (by omega) (by rw [h2]; rfl) (by decide) ?_
        refine G_aload_n (x := a0) (pc := 92) dX11_unit_92 rfl ?_
        refine G_getR (j := 6) (pc := 93) dX11_unit_93 rfl z_CLX11 (by decide) z_wX11_56 (by decide) (fun x14 => ?_)
        refine G_getR (j := 4) (pc := 96) dX11_unit_96 rfl z_CLX10 (by decide) z_wX11_162 (by decide) (fun x15 => ?_)
        refine G_iload_n (x := a1) (pc := 99) dX11_unit_99 rfl ?_
        refine G_callVI (as := [vI a1]) (st := []) (c := 7) (bc2 := 0) (bs2 := 0) (pc := 100) dX11_unit_100 z_mX7_get z_vX7_get z_wX11_143 (gX7_get hst fu s5 x15 a1) rfl rfl (by decide) rfl rfl ⟨by decide, by decide, by decide, by decide, Nat.le_of_ble_eq_true rfl⟩ rfl (fun x17 s16 => ?_)
        exact G_iret (pc := 103) dX11_unit_103
      · refine G_ite (fun h3 => ?_) (fun h3 => ?_)
        · refine G_tableIn (off := 79) (tgt := 104) (pc := 25) dX11_unit_25 (by omega) (by rw [h3]; rfl) (by decide) ?_
          refine G_aload_n (x := a0) (pc := 104) dX11_unit_104 rfl ?_
          refine G_getR (j := 10) (pc := 105) dX11_unit_105 rfl z_CLX11 (by decide) z_wX11_86 (by decide) (fun x18 => ?_)
          refine G_getR (j := 8) (pc := 108) dX11_unit_108 rfl z_CLX3 (by decide) z_wX11_198 (by decide) (fun x19 => ?_)
          refine G_iload_n (x := a1) (pc := 111) dX11_unit_111 rfl ?_
          refine G_callVI (as := [vI a1]) (st := []) (c := 7) (bc2 := 0) (bs2 := 0) (pc := 112) dX11_unit_112 z_mX7_get z_vX7_get z_wX11_143 (gX7_get hst fu s5 x19 a1) rfl rfl (by decide) rfl rfl ⟨by decide, by decide, by decide, by decide, Nat.le_of_ble_eq_true rfl⟩ rfl (fun x21 s20 => ?_)
          exact G_iret (pc := 115) dX11_unit_115
        · refine G_ite (fun h4 => ?_) (fun h4 => ?_)
          · refine G_tableIn (off := 91) (tgt := 116) (pc := 25) dX11_unit_25 (by omega) (by rw [h4]; rfl) (by decide) ?_
            refine G_aload_n (x := a0) (pc := 116) dX11_unit_116 rfl ?_
            refine G_getR (j := 10) (pc := 117) dX11_unit_117 rfl z_CLX11 (by decide) z_wX11_86 (by decide) (fun x22 => ?_)
            refine G_getR (j := 6) (pc := 120) dX11_unit_120 rfl z_CLX3 (by decide) z_wX11_201 (by decide) (fun x23 => ?_)
            refine G_iload_n (x := a1) (pc := 123) dX11_unit_123 rfl ?_
            refine G_callVI (as := [vI a1]) (st := []) (c := 7) (bc2 := 0) (bs2 := 0) (pc := 124) dX11_unit_124 z_mX7_get z_vX7_get z_wX11_143 (gX7_get hst fu s5 x23 a1) rfl rfl (by decide) rfl rfl ⟨by decide, by decide, by decide, by decide, Nat.le_of_ble_eq_true rfl⟩ rfl (fun x25 s24 => ?_)
            exact G_iret (pc := 127) dX11_unit_127
          · refine G_ite (fun h5 => ?_) (fun h5 => ?_)
            · refine G_tableIn (off := 103) (tgt := 128) (pc := 25) dX11_unit_25 (by omega) (by rw [h5]; rfl) (by decide) ?_
              refine G_aload_n (x := a0) (pc := 128) dX11_unit_128 rfl ?_
              refine G_getR (j := 10) (pc := 129) dX11_unit_129 rfl z_CLX11 (by decide) z_wX11_86 (by decide) (fun x26 => ?_)
              refine G_getR (j := 7) (pc := 132) dX11_unit_132 rfl z_CLX3 (by decide) z_wX11_204 (by decide) (fun x27 => ?_)
              refine G_iload_n (x := a1) (pc := 135) dX11_unit_135 rfl ?_
              refine G_callVI (as := [vI a1]) (st := []) (c := 7) (bc2 := 0) (bs2 := 0) (pc := 136) dX11_unit_136 z_mX7_get z_vX7_get z_wX11_143 (gX7_get hst fu s5 x27 a1) rfl rfl (by decide) rfl rfl ⟨by decide, by decide, by decide, by decide, Nat.le_of_ble_eq_true rfl⟩ rfl (fun x29 s28 => ?_)
              exact G_iret (pc := 139) dX11_unit_139
            · refine G_ite (fun h6 => ?_) (fun h6 => ?_)
              · refine G_tableIn (off := 115) (tgt := 140) (pc := 25) dX11_unit_25 (by omega) (by rw [h6]; rfl) (by decide) ?_
                refine G_aload_n (x := a0) (pc := 140) dX11_unit_140 rfl ?_
                refine G_getR (j := 6) (pc := 141) dX11_unit_141 rfl z_CLX11 (by decide) z_wX11_56 (by decide) (fun x30 => ?_)
                refine G_getR (j := 6) (pc := 144) dX11_unit_144 rfl z_CLX10 (by decide) z_wX11_207 (by decide) (fun x31 => ?_)
                refine G_iload_n (x := a1) (pc := 147) dX11_unit_147 rfl ?_
                refine G_callVI (as := [vI a1]) (st := []) (c := 7) (bc2 := 0) (bs2 := 0) (pc := 148) dX11_unit_148 z_mX7_get z_vX7_get z_wX11_143 (gX7_get hst fu s5 x31 a1) rfl rfl (by decide) rfl rfl ⟨by decide, by decide, by decide, by decide, Nat.le_of_ble_eq_true rfl⟩ rfl (fun x33 s32 => ?_)
                exact G_iret (pc := 151) dX11_unit_151
              · refine G_tableOut (tgt := 152) (pc := 25) dX11_unit_25 (by omega) ?_
                refine G_aload_n (x := a0) (pc := 152) dX11_unit_152 rfl ?_
                refine G_getR (j := 10) (pc := 153) dX11_unit_153 rfl z_CLX11 (by decide) z_wX11_86 (by decide) (fun x34 => ?_)
                refine G_getR (j := 9) (pc := 156) dX11_unit_156 rfl z_CLX3 (by decide) z_wX11_210 (by decide) (fun x35 => ?_)
                refine G_iload_n (x := a1) (pc := 159) dX11_unit_159 rfl ?_
                refine G_callVI (as := [vI a1]) (st := []) (c := 7) (bc2 := 0) (bs2 := 0) (pc := 160) dX11_unit_160 z_mX7_get z_vX7_get z_wX11_143 (gX7_get hst fu s5 x35 a1) rfl rfl (by decide) rfl rfl ⟨by decide, by decide, by decide, by decide, Nat.le_of_ble_eq_true rfl⟩ rfl (fun x37 s36 => ?_)
                exact G_iret (pc := 163) dX11_unit_163
def fX10_markOf_J77 (fu : Nat) (s : z_M) (t0 : Int) : z_O := some (vI t0, s)
theorem gX10_markOf_J77 {l : Launch} {K : z_K} (hst : l.stackTraces = false) (fu : Nat) (s : z_M) (t0 : Int) : G l K mX10_markOf 1 21 0 0 77 [vU, vU, vU, vU, vU] [vI t0] s (fX10_markOf_J77 fu s t0) := by
  unfold fX10_markOf_J77
  exact G_iret (pc := 77) dX10_markOf_77
def fX10_markOf_J76 (fu : Nat) (s : z_M) : z_O := fX10_markOf_J77 fu s 0
theorem gX10_markOf_J76 {l : Launch} {K : z_K} (hst : l.stackTraces = false) (fu : Nat) (s : z_M) : G l K mX10_markOf 1 21 0 0 76 [vU, vU, vU, vU, vU] [] s (fX10_markOf_J76 fu s) := by
  unfold fX10_markOf_J76
  refine G_iconst (pc := 76) dX10_markOf_76 ?_
  exact gX10_markOf_J77 hst fu s 0
def fX10_markOf_J50 (fu : Nat) (s : z_M) (t0 : Int) : z_O := some (vI t0, s)
theorem gX10_markOf_J50 {l : Launch} {K : z_K} (hst : l.stackTraces = false) (fu : Nat) (s : z_M) (t0 : Int) : G l K mX10_markOf 1 21 0 0 50 [vU, vU, vU, vU, vU] [vI t0] s (fX10_markOf_J50 fu s t0) := by
  unfold fX10_markOf_J50
  exact G_iret (pc := 50) dX10_markOf_50
def fX10_markOf (fu : Nat) (s : z_M) (a0 : Int) (a1 : Int) (a2 : Int) : z_O := if z_ob a0 10 then z_let (z_gr a0 0) (fun x1 => if z_ob x1 9 then z_let (z_gr x1 1) (fun x2 => if z_ob x2 7 then z_bI (fX7_get fu s x2 a1) (fun x4 s3 => if z_ob a0 10 then z_let (z_gr a0 13) (fun x5 => if z_ob x5 7 then z_bI (fX7_get fu s3 x5 a1) (fun x7 s6 => if z_ob a0 10 then z_let (z_gr a0 2) (fun x8 => if z_ob x8 7 then z_bI (fX7_get fu s6 x8 x7) (fun x10 s9 => if (x10 : Int) = 7 then (if (a2 : Int) ≠ 1 then (fX10_markOf_J76 fu s9) else (if (x4 : Int) = 0 then (fX10_markOf_J76 fu s9) else (if z_ob a0 10 then z_let (z_gr a0 8) (fun x11 => if z_ob x11 7 then z_bI (fX7_get fu s9 x11 x7) (fun x13 s12 => if (x13 : Int) ≠ 0 then (fX10_markOf_J76 fu s12) else (fX10_markOf_J77 fu s12 1)) else none) else none))) else (z_bI (fX10_markBit fu s9 a2) (fun x15 s14 => z_let (z_and x4 x15) (fun x16 => if (x16 : Int) = 0 then (fX10_markOf_J50 fu s14 0) else (fX10_markOf_J50 fu s14 1))))) else none) else none) else none) else none) else none) else none) else none
theorem gX10_markOf {l : Launch} {K : z_K} (hst : l.stackTraces = false) (fu : Nat) (s : z_M) (a0 : Int) (a1 : Int) (a2 : Int) : z_D l K mX10_markOf 1 21 0 0 [vR a0, vI a1, vI a2] s (fX10_markOf fu s a0 a1 a2) := by
  refine z_D_of (lv := [vR a0, vI a1, vI a2, vU, vU]) hst z_mX10_markOf rfl ?_ (Nat.le_of_ble_eq_true rfl) rfl
  unfold fX10_markOf
  refine G_aload_n (x := a0) (pc := 0) dX10_markOf_0 rfl ?_
  refine G_getR (j := 0) (pc := 1) dX10_markOf_1 rfl z_CLX10 (by decide) z_wX10_59 (by decide) (fun x1 => ?_)
  refine G_getR (j := 1) (pc := 4) dX10_markOf_4 rfl z_CLX9 (by decide) z_wX10_139 (by decide) (fun x2 => ?_)
  refine G_iload_n (x := a1) (pc := 7) dX10_markOf_7 rfl ?_
  refine G_callVI (as := [vI a1]) (st := []) (c := 7) (bc2 := 0) (bs2 := 0) (pc := 8) dX10_markOf_8 z_mX7_get z_vX7_get z_wX10_109 (gX7_get hst fu s x2 a1) rfl rfl (by decide) rfl rfl ⟨by decide, by decide, by decide, by decide, Nat.le_of_ble_eq_true rfl⟩ rfl (fun x4 s3 => ?_)
  refine G_istore_n (lv' := [vR a0, vI a1, vI a2, vI x4, vU]) (pc := 11) dX10_markOf_11 rfl ?_
  refine G_aload_n (x := a0) (pc := 12) dX10_markOf_12 rfl ?_
  refine G_getR (j := 13) (pc := 13) dX10_markOf_13 rfl z_CLX10 (by decide) z_wX10_50 (by decide) (fun x5 => ?_)
  refine G_iload_n (x := a1) (pc := 16) dX10_markOf_16 rfl ?_
  refine G_callVI (as := [vI a1]) (st := []) (c := 7) (bc2 := 0) (bs2 := 0) (pc := 17) dX10_markOf_17 z_mX7_get z_vX7_get z_wX10_109 (gX7_get hst fu s3 x5 a1) rfl rfl (by decide) rfl rfl ⟨by decide, by decide, by decide, by decide, Nat.le_of_ble_eq_true rfl⟩ rfl (fun x7 s6 => ?_)
  refine G_istore (lv' := [vR a0, vI a1, vI a2, vI x4, vI x7]) (pc := 20) dX10_markOf_20 rfl ?_
  refine G_aload_n (x := a0) (pc := 22) dX10_markOf_22 rfl ?_
  refine G_getR (j := 2) (pc := 23) dX10_markOf_23 rfl z_CLX10 (by decide) z_wX10_14 (by decide) (fun x8 => ?_)
  refine G_iload (x := x7) (pc := 26) dX10_markOf_26 rfl ?_
  refine G_callVI (as := [vI x7]) (st := []) (c := 7) (bc2 := 0) (bs2 := 0) (pc := 28) dX10_markOf_28 z_mX7_get z_vX7_get z_wX10_109 (gX7_get hst fu s6 x8 x7) rfl rfl (by decide) rfl rfl ⟨by decide, by decide, by decide, by decide, Nat.le_of_ble_eq_true rfl⟩ rfl (fun x10 s9 => ?_)
  refine G_bipush (pc := 31) dX10_markOf_31 ?_
  refine G_icmp_eq (tgt := 51) (pc := 33) dX10_markOf_33 ?_ ?_
  · refine G_iload_n (x := a2) (pc := 51) dX10_markOf_51 rfl ?_
    refine G_iconst (pc := 52) dX10_markOf_52 ?_
    refine G_icmp_ne (tgt := 76) (pc := 53) dX10_markOf_53 ?_ ?_
    · refine G_fg (lv2 := [vU, vU, vU, vU, vU]) ⟨Or.inl rfl, Or.inl rfl, Or.inl rfl, Or.inl rfl, Or.inl rfl, trivial⟩ ?_
      exact gX10_markOf_J76 hst fu s9
    · refine G_iload_n (x := x4) (pc := 56) dX10_markOf_56 rfl ?_
      refine G_if_eq (tgt := 76) (pc := 57) dX10_markOf_57 ?_ ?_
      · refine G_fg (lv2 := [vU, vU, vU, vU, vU]) ⟨Or.inl rfl, Or.inl rfl, Or.inl rfl, Or.inl rfl, Or.inl rfl, trivial⟩ ?_
        exact gX10_markOf_J76 hst fu s9
      · refine G_aload_n (x := a0) (pc := 60) dX10_markOf_60 rfl ?_
        refine G_getR (j := 8) (pc := 61) dX10_markOf_61 rfl z_CLX10 (by decide) z_wX10_35 (by decide) (fun x11 => ?_)
        refine G_iload (x := x7) (pc := 64) dX10_markOf_64 rfl ?_
        refine G_callVI (as := [vI x7]) (st := []) (c := 7) (bc2 := 0) (bs2 := 0) (pc := 66) dX10_markOf_66 z_mX7_get z_vX7_get z_wX10_109 (gX7_get hst fu s9 x11 x7) rfl rfl (by decide) rfl rfl ⟨by decide, by decide, by decide, by decide, Nat.le_of_ble_eq_true rfl⟩ rfl (fun x13 s12 => ?_)
        refine G_if_ne (tgt := 76) (pc := 69) dX10_markOf_69 ?_ ?_
        · refine G_fg (lv2 := [vU, vU, vU, vU, vU]) ⟨Or.inl rfl, Or.inl rfl, Or.inl rfl, Or.inl rfl, Or.inl rfl, trivial⟩ ?_
          exact gX10_markOf_J76 hst fu s12
        · refine G_iconst (pc := 72) dX10_markOf_72 ?_
          refine G_goto (tgt := 77) (pc := 73) dX10_markOf_73 ?_
          refine G_fg (lv2 := [vU, vU, vU, vU, vU]) ⟨Or.inl rfl, Or.inl rfl, Or.inl rfl, Or.inl rfl, Or.inl rfl, trivial⟩ ?_
          exact gX10_markOf_J77 hst fu s12 1
  · refine G_iload_n (x := x4) (pc := 36) dX10_markOf_36 rfl ?_
    refine G_iload_n (x := a2) (pc := 37) dX10_markOf_37 rfl ?_
    refine G_callSI (as := [vI a2]) (st := [vI x4]) (bc2 := 0) (bs2 := 0) (pc := 38) dX10_markOf_38 z_mX10_markBit z_sX10_markBit z_wX10_142 (gX10_markBit hst fu s9 a2) rfl rfl ⟨by decide, by decide, by decide, by decide, Nat.le_of_ble_eq_true rfl⟩ rfl (fun x15 s14 => ?_)
    refine G_iand (pc := 41) dX10_markOf_41 (fun x16 => ?_)
    refine G_if_eq (tgt := 49) (pc := 42) dX10_markOf_42 ?_ ?_
    · refine G_iconst (pc := 49) dX10_markOf_49 ?_
      refine G_fg (lv2 := [vU, vU, vU, vU, vU]) ⟨Or.inl rfl, Or.inl rfl, Or.inl rfl, Or.inl rfl, Or.inl rfl, trivial⟩ ?_
      exact gX10_markOf_J50 hst fu s14 0
    · refine G_iconst (pc := 45) dX10_markOf_45 ?_
      refine G_goto (tgt := 50) (pc := 46) dX10_markOf_46 ?_
      refine G_fg (lv2 := [vU, vU, vU, vU, vU]) ⟨Or.inl rfl, Or.inl rfl, Or.inl rfl, Or.inl rfl, Or.inl rfl, trivial⟩ ?_
      exact gX10_markOf_J50 hst fu s14 1
def fX11_sign (fu : Nat) (s : z_M) (a0 : Int) (a1 : Int) (a2 : Int) : z_O := if z_ob a0 11 then z_bN (fX11_refresh fu s a0) (fun s1 => if z_ob a0 11 then z_let (z_gr a0 2) (fun x2 => if z_ob x2 9 then z_let (s1 x2 6) (fun x3 => if z_ob a0 11 then z_bN (fX11_needExisting fu s1 a0 a1 x3) (fun s4 => if z_ob a0 11 then z_bN (fX11_needWithin fu s4 a0 a2 0 6) (fun s5 => if a2 = (0 : Int) then (if z_ob a0 11 then z_let (z_gr a0 2) (fun x6 => if z_ob x6 9 then z_let (z_gr x6 0) (fun x7 => if z_ob x7 7 then z_bI (fX7_get fu s5 x7 a1) (fun x9 s8 => some (vI x9, s8)) else none) else none) else none) else (if a2 = (1 : Int) then (if z_ob a0 11 then z_let (z_gr a0 6) (fun x10 => if z_ob x10 10 then z_let (z_gr x10 13) (fun x11 => if z_ob x11 7 then z_bI (fX7_get fu s5 x11 a1) (fun x13 s12 => some (vI x13, s12)) else none) else none) else none) else (if a2 = (2 : Int) then (if z_ob a0 11 then z_let (z_gr a0 10) (fun x14 => if z_ob x14 3 then z_let (z_gr x14 6) (fun x15 => if z_ob a0 11 then z_let (z_gr a0 6) (fun x16 => if z_ob x16 10 then z_let (z_gr x16 13) (fun x17 => if z_ob x17 7 then z_bI (fX7_get fu s5 x17 a1) (fun x19 s18 => if z_ob x15 7 then z_bI (fX7_get fu s18 x15 x19) (fun x21 s20 => some (vI x21, s20)) else none) else none) else none) else none) else none) else none) else (if a2 = (3 : Int) then (if z_ob a0 11 then z_let (z_gr a0 10) (fun x22 => if z_ob x22 3 then z_let (z_gr x22 10) (fun x23 => if z_ob x23 7 then z_bI (fX7_get fu s5 x23 a1) (fun x25 s24 => some (vI x25, s24)) else none) else none) else none) else (if a2 = (4 : Int) then (if z_ob a0 11 then z_let (z_gr a0 6) (fun x26 => if z_ob x26 10 then z_let (z_gr x26 15) (fun x27 => if z_ob x27 7 then z_bI (fX7_get fu s5 x27 a1) (fun x29 s28 => some (vI x29, s28)) else none) else none) else none) else (if a2 = (5 : Int) then (if z_ob a0 11 then z_let (z_gr a0 6) (fun x30 => if z_ob x30 10 then z_bI (fX10_markOf fu s5 x30 a1 0) (fun x32 s31 => some (vI x32, s31)) else none) else none) else (if z_ob a0 11 then z_let (z_gr a0 6) (fun x33 => if z_ob x33 10 then z_bI (fX10_markOf fu s5 x33 a1 1) (fun x35 s34 => some (vI x35, s34)) else none) else none))))))) else none) else none) else none) else none) else none
theorem gX11_sign {l : Launch} {K : z_K} (hst : l.stackTraces = false) (fu : Nat) (s : z_M) (a0 : Int) (a1 : Int) (a2 : Int) : z_D l K mX11_sign 7 172 2 12 [vR a0, vI a1, vI a2] s (fX11_sign fu s a0 a1 a2) := by
  refine z_D_of (lv := [vR a0, vI a1, vI a2]) hst z_mX11_sign rfl ?_ (Nat.le_of_ble_eq_true rfl) rfl
  unfold fX11_sign
  refine G_aload_n (x := a0) (pc := 0) dX11_sign_0 rfl ?_
  refine G_callVN (as := []) (st := []) (c := 11) (bc2 := 2) (bs2 := 12) (pc := 1) dX11_sign_1 z_mX11_refresh z_vX11_refresh z_wX11_124 (gX11_refresh hst fu s a0) rfl rfl (by decide) rfl rfl ⟨by decide, by decide, by decide, by decide, Nat.le_of_ble_eq_true rfl⟩ rfl (fun s1 => ?_)
  refine G_aload_n (x := a0) (pc := 4) dX11_sign_4 rfl ?_
  refine G_iload_n (x := a1) (pc := 5) dX11_sign_5 rfl ?_
  refine G_aload_n (x := a0) (pc := 6) dX11_sign_6 rfl ?_
  refine G_getR (j := 2) (pc := 7) dX11_sign_7 rfl z_CLX11 (by decide) z_wX11_28 (by decide) (fun x2 => ?_)
  refine G_getI (j := 6) (pc := 10) dX11_sign_10 rfl z_CLX9 (by decide) z_wX11_172 (by decide) (fun x3 => ?_)
  refine G_callVN (as := [vI a1, vI x3]) (st := []) (c := 11) (bc2 := 1) (bs2 := 6) (pc := 13) dX11_sign_13 z_mX11_needExisting z_vX11_needExisting z_wX11_153 (gX11_needExisting hst fu s1 a0 a1 x3) rfl rfl (by decide) rfl rfl ⟨by decide, by decide, by decide, by decide, Nat.le_of_ble_eq_true rfl⟩ rfl (fun s4 => ?_)
  refine G_aload_n (x := a0) (pc := 16) dX11_sign_16 rfl ?_
  refine G_iload_n (x := a2) (pc := 17) dX11_sign_17 rfl ?_
  refine G_iconst (pc := 18) dX11_sign_18 ?_
  refine G_bipush (pc := 19) dX11_sign_19 ?_
  refine G_callVN (as := [vI a2, vI 0, vI 6]) (st := []) (c := 11) (bc2 := 0) (bs2 := 0) (pc := 21) dX11_sign_21 z_mX11_needWithin z_vX11_needWithin z_wX11_113 (gX11_needWithin hst fu s4 a0 a2 0 6) rfl rfl (by decide) rfl rfl ⟨by decide, by decide, by decide, by decide, Nat.le_of_ble_eq_true rfl⟩ rfl (fun s5 => ?_)
  refine G_iload_n (x := a2) (pc := 24) dX11_sign_24 rfl ?_
  refine G_ite (fun h0 => ?_) (fun h0 => ?_)
  · refine G_tableIn (off := 39) (tgt := 64) (pc := 25) dX11_sign_25 (by omega) (by rw [h0]; rfl) (by decide) ?_
    refine G_aload_n (x := a0) (pc := 64) dX11_sign_64 rfl ?_
    refine G_getR (j := 2) (pc := 65) dX11_sign_65 rfl z_CLX11 (by decide) z_wX11_28 (by decide) (fun x6 => ?_)
    refine G_getR (j := 0) (pc := 68) dX11_sign_68 rfl z_CLX9 (by decide) z_wX11_213 (by decide) (fun x7 => ?_)
    refine G_iload_n (x := a1) (pc := 71) dX11_sign_71 rfl ?_
    refine G_callVI (as := [vI a1]) (st := []) (c := 7) (bc2 := 0) (bs2 := 0) (pc := 72) dX11_sign_72 z_mX7_get z_vX7_get z_wX11_143 (gX7_get hst fu s5 x7 a1) rfl rfl (by decide) rfl rfl ⟨by decide, by decide, by decide, by decide, Nat.le_of_ble_eq_true rfl⟩ rfl (fun x9 s8 => ?_)
    exact G_iret (pc := 75) dX11_sign_75
  · refine G_ite (fun h1 => ?_) (fun h1 => ?_)
    · refine G_tableIn (off := 51) (tgt := 76) (pc := 25) dX11_sign_25 (by omega) (by rw [h1]; rfl) (by decide) ?_
      refine G_aload_n (x := a0) (pc := 76) dX11_sign_76 rfl ?_
      refine G_getR (j := 6) (pc := 77) dX11_sign_77 rfl z_CLX11 (by decide) z_wX11_56 (by decide) (fun x10 => ?_)
      refine G_getR (j := 13) (pc := 80) dX11_sign_80 rfl z_CLX10 (by decide) z_wX11_216 (by decide) (fun x11 => ?_)
      refine G_iload_n (x := a1) (pc := 83) dX11_sign_83 rfl ?_
      refine G_callVI (as := [vI a1]) (st := []) (c := 7) (bc2 := 0) (bs2 := 0) (pc := 84) dX11_sign_84 z_mX7_get z_vX7_get z_wX11_143 (gX7_get hst fu s5 x11 a1) rfl rfl (by decide) rfl rfl ⟨by decide, by decide, by decide, by decide, Nat.le_of_ble_eq_true rfl⟩ rfl (fun x13 s12 => ?_)
      exact G_iret (pc := 87) dX11_sign_87
    · refine G_ite (fun h2 => ?_) (fun h2 => ?_)
      · refine G_tableIn (off := 63) (tgt := 88) (pc := 25) dX11_sign_25 (by omega) (by rw [h2]; rfl) (by decide) ?_
        refine G_aload_n (x := a0) (pc := 88) dX11_sign_88 rfl ?_
        refine G_getR (j := 10) (pc := 89) dX11_sign_89 rfl z_CLX11 (by decide) z_wX11_86 (by decide) (fun x14 => ?_)
        refine G_getR (j := 6) (pc := 92) dX11_sign_92 rfl z_CLX3 (by decide) z_wX11_201 (by decide) (fun x15 => ?_)
        refine G_aload_n (x := a0) (pc := 95) dX11_sign_95 rfl ?_
        refine G_getR (j := 6) (pc := 96) dX11_sign_96 rfl z_CLX11 (by decide) z_wX11_56 (by decide) (fun x16 => ?_)
        refine G_getR (j := 13) (pc := 99) dX11_sign_99 rfl z_CLX10 (by decide) z_wX11_216 (by decide) (fun x17 => ?_)
        refine G_iload_n (x := a1) (pc := 102) dX11_sign_102 rfl ?_
        refine G_callVI (as := [vI a1]) (st := [vR x15]) (c := 7) (bc2 := 0) (bs2 := 0) (pc := 103) dX11_sign_103 z_mX7_get z_vX7_get z_wX11_143 (gX7_get hst fu s5 x17 a1) rfl rfl (by decide) rfl rfl ⟨by decide, by decide, by decide, by decide, Nat.le_of_ble_eq_true rfl⟩ rfl (fun x19 s18 => ?_)
        refine G_callVI (as := [vI x19]) (st := []) (c := 7) (bc2 := 0) (bs2 := 0) (pc := 106) dX11_sign_106 z_mX7_get z_vX7_get z_wX11_143 (gX7_get hst fu s18 x15 x19) rfl rfl (by decide) rfl rfl ⟨by decide, by decide, by decide, by decide, Nat.le_of_ble_eq_true rfl⟩ rfl (fun x21 s20 => ?_)
        exact G_iret (pc := 109) dX11_sign_109
      · refine G_ite (fun h3 => ?_) (fun h3 => ?_)
        · refine G_tableIn (off := 85) (tgt := 110) (pc := 25) dX11_sign_25 (by omega) (by rw [h3]; rfl) (by decide) ?_
          refine G_aload_n (x := a0) (pc := 110) dX11_sign_110 rfl ?_
          refine G_getR (j := 10) (pc := 111) dX11_sign_111 rfl z_CLX11 (by decide) z_wX11_86 (by decide) (fun x22 => ?_)
          refine G_getR (j := 10) (pc := 114) dX11_sign_114 rfl z_CLX3 (by decide) z_wX11_219 (by decide) (fun x23 => ?_)
          refine G_iload_n (x := a1) (pc := 117) dX11_sign_117 rfl ?_
          refine G_callVI (as := [vI a1]) (st := []) (c := 7) (bc2 := 0) (bs2 := 0) (pc := 118) dX11_sign_118 z_mX7_get z_vX7_get z_wX11_143 (gX7_get hst fu s5 x23 a1) rfl rfl (by decide) rfl rfl ⟨by decide, by decide, by decide, by decide, Nat.le_of_ble_eq_true rfl⟩ rfl (fun x25 s24 => ?_)
          exact G_iret (pc := 121) dX11_sign_121
        · refine G_ite (fun h4 => ?_) (fun h4 => ?_)
          · refine G_tableIn (off := 97) (tgt := 122) (pc := 25) dX11_sign_25 (by omega) (by rw [h4]; rfl) (by decide) ?_
            refine G_aload_n (x := a0) (pc := 122) dX11_sign_122 rfl ?_
            refine G_getR (j := 6) (pc := 123) dX11_sign_123 rfl z_CLX11 (by decide) z_wX11_56 (by decide) (fun x26 => ?_)
            refine G_getR (j := 15) (pc := 126) dX11_sign_126 rfl z_CLX10 (by decide) z_wX11_222 (by decide) (fun x27 => ?_)
            refine G_iload_n (x := a1) (pc := 129) dX11_sign_129 rfl ?_
            refine G_callVI (as := [vI a1]) (st := []) (c := 7) (bc2 := 0) (bs2 := 0) (pc := 130) dX11_sign_130 z_mX7_get z_vX7_get z_wX11_143 (gX7_get hst fu s5 x27 a1) rfl rfl (by decide) rfl rfl ⟨by decide, by decide, by decide, by decide, Nat.le_of_ble_eq_true rfl⟩ rfl (fun x29 s28 => ?_)
            exact G_iret (pc := 133) dX11_sign_133
          · refine G_ite (fun h5 => ?_) (fun h5 => ?_)
            · refine G_tableIn (off := 109) (tgt := 134) (pc := 25) dX11_sign_25 (by omega) (by rw [h5]; rfl) (by decide) ?_
              refine G_aload_n (x := a0) (pc := 134) dX11_sign_134 rfl ?_
              refine G_getR (j := 6) (pc := 135) dX11_sign_135 rfl z_CLX11 (by decide) z_wX11_56 (by decide) (fun x30 => ?_)
              refine G_iload_n (x := a1) (pc := 138) dX11_sign_138 rfl ?_
              refine G_iconst (pc := 139) dX11_sign_139 ?_
              refine G_callVI (as := [vI a1, vI 0]) (st := []) (c := 10) (bc2 := 0) (bs2 := 0) (pc := 140) dX11_sign_140 z_mX10_markOf z_vX10_markOf z_wX11_225 (gX10_markOf hst fu s5 x30 a1 0) rfl rfl (by decide) rfl rfl ⟨by decide, by decide, by decide, by decide, Nat.le_of_ble_eq_true rfl⟩ rfl (fun x32 s31 => ?_)
              exact G_iret (pc := 143) dX11_sign_143
            · refine G_tableOut (tgt := 144) (pc := 25) dX11_sign_25 (by omega) ?_
              refine G_aload_n (x := a0) (pc := 144) dX11_sign_144 rfl ?_
              refine G_getR (j := 6) (pc := 145) dX11_sign_145 rfl z_CLX11 (by decide) z_wX11_56 (by decide) (fun x33 => ?_)
              refine G_iload_n (x := a1) (pc := 148) dX11_sign_148 rfl ?_
              refine G_iconst (pc := 149) dX11_sign_149 ?_
              refine G_callVI (as := [vI a1, vI 1]) (st := []) (c := 10) (bc2 := 0) (bs2 := 0) (pc := 150) dX11_sign_150 z_mX10_markOf z_vX10_markOf z_wX11_225 (gX10_markOf hst fu s5 x33 a1 1) rfl rfl (by decide) rfl rfl ⟨by decide, by decide, by decide, by decide, Nat.le_of_ble_eq_true rfl⟩ rfl (fun x35 s34 => ?_)
              exact G_iret (pc := 153) dX11_sign_153
def fX11_line (fu : Nat) (s : z_M) (a0 : Int) (a1 : Int) (a2 : Int) : z_O := if z_ob a0 11 then z_bN (fX11_refresh fu s a0) (fun s1 => if z_ob a0 11 then z_let (z_gr a0 8) (fun x2 => if z_ob x2 1 then z_let (s1 x2 6) (fun x3 => if z_ob a0 11 then z_bN (fX11_needExisting fu s1 a0 a1 x3) (fun s4 => if z_ob a0 11 then z_bN (fX11_needWithin fu s4 a0 a2 0 7) (fun s5 => if a2 = (0 : Int) then (if z_ob a0 11 then z_let (z_gr a0 8) (fun x6 => if z_ob x6 1 then z_let (z_gr x6 5) (fun x7 => if z_ob x7 7 then z_bI (fX7_get fu s5 x7 a1) (fun x9 s8 => some (vI x9, s8)) else none) else none) else none) else (if a2 = (1 : Int) then (if z_ob a0 11 then z_let (z_gr a0 8) (fun x10 => if z_ob x10 1 then z_let (z_gr x10 5) (fun x11 => z_let (z_w (a1 + 1)) (fun x12 => if z_ob x11 7 then z_bI (fX7_get fu s5 x11 x12) (fun x14 s13 => if z_ob a0 11 then z_let (z_gr a0 8) (fun x15 => if z_ob x15 1 then z_let (z_gr x15 5) (fun x16 => if z_ob x16 7 then z_bI (fX7_get fu s13 x16 a1) (fun x18 s17 => z_let (z_w (x14 - x18)) (fun x19 => some (vI x19, s17))) else none) else none) else none) else none)) else none) else none) else (if a2 = (2 : Int) then (if z_ob a0 11 then z_let (z_gr a0 10) (fun x20 => if z_ob x20 3 then z_let (z_gr x20 11) (fun x21 => if z_ob x21 7 then z_bI (fX7_get fu s5 x21 a1) (fun x23 s22 => some (vI x23, s22)) else none) else none) else none) else (if a2 = (3 : Int) then (if z_ob a0 11 then z_let (z_gr a0 0) (fun x24 => if z_ob x24 7 then z_bI (fX7_get fu s5 x24 0) (fun x26 s25 => if z_ob a0 11 then z_let (z_gr a0 10) (fun x27 => if z_ob x27 3 then z_let (z_gr x27 11) (fun x28 => if z_ob x28 7 then z_bI (fX7_get fu s25 x28 a1) (fun x30 s29 => z_let (z_w (x26 - x30)) (fun x31 => some (vI x31, s29))) else none) else none) else none) else none) else none) else (if a2 = (4 : Int) then (if z_ob a0 11 then z_let (z_gr a0 10) (fun x32 => if z_ob x32 3 then z_let (z_gr x32 12) (fun x33 => if z_ob x33 7 then z_bI (fX7_get fu s5 x33 a1) (fun x35 s34 => some (vI x35, s34)) else none) else none) else none) else (if a2 = (5 : Int) then (if z_ob a0 11 then z_let (z_gr a0 10) (fun x36 => if z_ob x36 3 then z_let (z_gr x36 15) (fun x37 => z_let (z_w (a1 + 1)) (fun x38 => if z_ob x37 7 then z_bI (fX7_get fu s5 x37 x38) (fun x40 s39 => if z_ob a0 11 then z_let (z_gr a0 10) (fun x41 => if z_ob x41 3 then z_let (z_gr x41 15) (fun x42 => if z_ob x42 7 then z_bI (fX7_get fu s39 x42 a1) (fun x44 s43 => z_let (z_w (x40 - x44)) (fun x45 => some (vI x45, s43))) else none) else none) else none) else none)) else none) else none) else (if a2 = (6 : Int) then (if z_ob a0 11 then z_let (z_gr a0 10) (fun x46 => if z_ob x46 3 then z_let (z_gr x46 13) (fun x47 => if z_ob x47 7 then z_bI (fX7_get fu s5 x47 a1) (fun x49 s48 => some (vI x49, s48)) else none) else none) else none) else (if z_ob a0 11 then z_let (z_gr a0 10) (fun x50 => if z_ob x50 3 then z_let (z_gr x50 14) (fun x51 => if z_ob x51 7 then z_bI (fX7_get fu s5 x51 a1) (fun x53 s52 => some (vI x53, s52)) else none) else none) else none)))))))) else none) else none) else none) else none) else none
theorem gX11_line {l : Launch} {K : z_K} (hst : l.stackTraces = false) (fu : Nat) (s : z_M) (a0 : Int) (a1 : Int) (a2 : Int) : z_D l K mX11_line 7 172 2 12 [vR a0, vI a1, vI a2] s (fX11_line fu s a0 a1 a2) := by
  refine z_D_of (lv := [vR a0, vI a1, vI a2]) hst z_mX11_line rfl ?_ (Nat.le_of_ble_eq_true rfl) rfl
  unfold fX11_line
  refine G_aload_n (x := a0) (pc := 0) dX11_line_0 rfl ?_
  refine G_callVN (as := []) (st := []) (c := 11) (bc2 := 2) (bs2 := 12) (pc := 1) dX11_line_1 z_mX11_refresh z_vX11_refresh z_wX11_124 (gX11_refresh hst fu s a0) rfl rfl (by decide) rfl rfl ⟨by decide, by decide, by decide, by decide, Nat.le_of_ble_eq_true rfl⟩ rfl (fun s1 => ?_)
  refine G_aload_n (x := a0) (pc := 4) dX11_line_4 rfl ?_
  refine G_iload_n (x := a1) (pc := 5) dX11_line_5 rfl ?_
  refine G_aload_n (x := a0) (pc := 6) dX11_line_6 rfl ?_
  refine G_getR (j := 8) (pc := 7) dX11_line_7 rfl z_CLX11 (by decide) z_wX11_74 (by decide) (fun x2 => ?_)
  refine G_getI (j := 6) (pc := 10) dX11_line_10 rfl z_CLX1 (by decide) z_wX11_176 (by decide) (fun x3 => ?_)
  refine G_callVN (as := [vI a1, vI x3]) (st := []) (c := 11) (bc2 := 1) (bs2 := 6) (pc := 13) dX11_line_13 z_mX11_needExisting z_vX11_needExisting z_wX11_153 (gX11_needExisting hst fu s1 a0 a1 x3) rfl rfl (by decide) rfl rfl ⟨by decide, by decide, by decide, by decide, Nat.le_of_ble_eq_true rfl⟩ rfl (fun s4 => ?_)
  refine G_aload_n (x := a0) (pc := 16) dX11_line_16 rfl ?_
  refine G_iload_n (x := a2) (pc := 17) dX11_line_17 rfl ?_
  refine G_iconst (pc := 18) dX11_line_18 ?_
  refine G_bipush (pc := 19) dX11_line_19 ?_
  refine G_callVN (as := [vI a2, vI 0, vI 7]) (st := []) (c := 11) (bc2 := 0) (bs2 := 0) (pc := 21) dX11_line_21 z_mX11_needWithin z_vX11_needWithin z_wX11_113 (gX11_needWithin hst fu s4 a0 a2 0 7) rfl rfl (by decide) rfl rfl ⟨by decide, by decide, by decide, by decide, Nat.le_of_ble_eq_true rfl⟩ rfl (fun s5 => ?_)
  refine G_iload_n (x := a2) (pc := 24) dX11_line_24 rfl ?_
  refine G_ite (fun h0 => ?_) (fun h0 => ?_)
  · refine G_tableIn (off := 43) (tgt := 68) (pc := 25) dX11_line_25 (by omega) (by rw [h0]; rfl) (by decide) ?_
    refine G_aload_n (x := a0) (pc := 68) dX11_line_68 rfl ?_
    refine G_getR (j := 8) (pc := 69) dX11_line_69 rfl z_CLX11 (by decide) z_wX11_74 (by decide) (fun x6 => ?_)
    refine G_getR (j := 5) (pc := 72) dX11_line_72 rfl z_CLX1 (by decide) z_wX11_229 (by decide) (fun x7 => ?_)
    refine G_iload_n (x := a1) (pc := 75) dX11_line_75 rfl ?_
    refine G_callVI (as := [vI a1]) (st := []) (c := 7) (bc2 := 0) (bs2 := 0) (pc := 76) dX11_line_76 z_mX7_get z_vX7_get z_wX11_143 (gX7_get hst fu s5 x7 a1) rfl rfl (by decide) rfl rfl ⟨by decide, by decide, by decide, by decide, Nat.le_of_ble_eq_true rfl⟩ rfl (fun x9 s8 => ?_)
    exact G_iret (pc := 79) dX11_line_79
  · refine G_ite (fun h1 => ?_) (fun h1 => ?_)
    · refine G_tableIn (off := 55) (tgt := 80) (pc := 25) dX11_line_25 (by omega) (by rw [h1]; rfl) (by decide) ?_
      refine G_aload_n (x := a0) (pc := 80) dX11_line_80 rfl ?_
      refine G_getR (j := 8) (pc := 81) dX11_line_81 rfl z_CLX11 (by decide) z_wX11_74 (by decide) (fun x10 => ?_)
      refine G_getR (j := 5) (pc := 84) dX11_line_84 rfl z_CLX1 (by decide) z_wX11_229 (by decide) (fun x11 => ?_)
      refine G_iload_n (x := a1) (pc := 87) dX11_line_87 rfl ?_
      refine G_iconst (pc := 88) dX11_line_88 ?_
      refine G_iadd (pc := 89) dX11_line_89 (fun x12 => ?_)
      refine G_callVI (as := [vI x12]) (st := []) (c := 7) (bc2 := 0) (bs2 := 0) (pc := 90) dX11_line_90 z_mX7_get z_vX7_get z_wX11_143 (gX7_get hst fu s5 x11 x12) rfl rfl (by decide) rfl rfl ⟨by decide, by decide, by decide, by decide, Nat.le_of_ble_eq_true rfl⟩ rfl (fun x14 s13 => ?_)
      refine G_aload_n (x := a0) (pc := 93) dX11_line_93 rfl ?_
      refine G_getR (j := 8) (pc := 94) dX11_line_94 rfl z_CLX11 (by decide) z_wX11_74 (by decide) (fun x15 => ?_)
      refine G_getR (j := 5) (pc := 97) dX11_line_97 rfl z_CLX1 (by decide) z_wX11_229 (by decide) (fun x16 => ?_)
      refine G_iload_n (x := a1) (pc := 100) dX11_line_100 rfl ?_
      refine G_callVI (as := [vI a1]) (st := [vI x14]) (c := 7) (bc2 := 0) (bs2 := 0) (pc := 101) dX11_line_101 z_mX7_get z_vX7_get z_wX11_143 (gX7_get hst fu s13 x16 a1) rfl rfl (by decide) rfl rfl ⟨by decide, by decide, by decide, by decide, Nat.le_of_ble_eq_true rfl⟩ rfl (fun x18 s17 => ?_)
      refine G_isub (pc := 104) dX11_line_104 (fun x19 => ?_)
      exact G_iret (pc := 105) dX11_line_105
    · refine G_ite (fun h2 => ?_) (fun h2 => ?_)
      · refine G_tableIn (off := 81) (tgt := 106) (pc := 25) dX11_line_25 (by omega) (by rw [h2]; rfl) (by decide) ?_
        refine G_aload_n (x := a0) (pc := 106) dX11_line_106 rfl ?_
        refine G_getR (j := 10) (pc := 107) dX11_line_107 rfl z_CLX11 (by decide) z_wX11_86 (by decide) (fun x20 => ?_)
        refine G_getR (j := 11) (pc := 110) dX11_line_110 rfl z_CLX3 (by decide) z_wX11_232 (by decide) (fun x21 => ?_)
        refine G_iload_n (x := a1) (pc := 113) dX11_line_113 rfl ?_
        refine G_callVI (as := [vI a1]) (st := []) (c := 7) (bc2 := 0) (bs2 := 0) (pc := 114) dX11_line_114 z_mX7_get z_vX7_get z_wX11_143 (gX7_get hst fu s5 x21 a1) rfl rfl (by decide) rfl rfl ⟨by decide, by decide, by decide, by decide, Nat.le_of_ble_eq_true rfl⟩ rfl (fun x23 s22 => ?_)
        exact G_iret (pc := 117) dX11_line_117
      · refine G_ite (fun h3 => ?_) (fun h3 => ?_)
        · refine G_tableIn (off := 93) (tgt := 118) (pc := 25) dX11_line_25 (by omega) (by rw [h3]; rfl) (by decide) ?_
          refine G_aload_n (x := a0) (pc := 118) dX11_line_118 rfl ?_
          refine G_getR (j := 0) (pc := 119) dX11_line_119 rfl z_CLX11 (by decide) z_wX11_18 (by decide) (fun x24 => ?_)
          refine G_iconst (pc := 122) dX11_line_122 ?_
          refine G_callVI (as := [vI 0]) (st := []) (c := 7) (bc2 := 0) (bs2 := 0) (pc := 123) dX11_line_123 z_mX7_get z_vX7_get z_wX11_143 (gX7_get hst fu s5 x24 0) rfl rfl (by decide) rfl rfl ⟨by decide, by decide, by decide, by decide, Nat.le_of_ble_eq_true rfl⟩ rfl (fun x26 s25 => ?_)
          refine G_aload_n (x := a0) (pc := 126) dX11_line_126 rfl ?_
          refine G_getR (j := 10) (pc := 127) dX11_line_127 rfl z_CLX11 (by decide) z_wX11_86 (by decide) (fun x27 => ?_)
          refine G_getR (j := 11) (pc := 130) dX11_line_130 rfl z_CLX3 (by decide) z_wX11_232 (by decide) (fun x28 => ?_)
          refine G_iload_n (x := a1) (pc := 133) dX11_line_133 rfl ?_
          refine G_callVI (as := [vI a1]) (st := [vI x26]) (c := 7) (bc2 := 0) (bs2 := 0) (pc := 134) dX11_line_134 z_mX7_get z_vX7_get z_wX11_143 (gX7_get hst fu s25 x28 a1) rfl rfl (by decide) rfl rfl ⟨by decide, by decide, by decide, by decide, Nat.le_of_ble_eq_true rfl⟩ rfl (fun x30 s29 => ?_)
          refine G_isub (pc := 137) dX11_line_137 (fun x31 => ?_)
          exact G_iret (pc := 138) dX11_line_138
        · refine G_ite (fun h4 => ?_) (fun h4 => ?_)
          · refine G_tableIn (off := 114) (tgt := 139) (pc := 25) dX11_line_25 (by omega) (by rw [h4]; rfl) (by decide) ?_
            refine G_aload_n (x := a0) (pc := 139) dX11_line_139 rfl ?_
            refine G_getR (j := 10) (pc := 140) dX11_line_140 rfl z_CLX11 (by decide) z_wX11_86 (by decide) (fun x32 => ?_)
            refine G_getR (j := 12) (pc := 143) dX11_line_143 rfl z_CLX3 (by decide) z_wX11_235 (by decide) (fun x33 => ?_)
            refine G_iload_n (x := a1) (pc := 146) dX11_line_146 rfl ?_
            refine G_callVI (as := [vI a1]) (st := []) (c := 7) (bc2 := 0) (bs2 := 0) (pc := 147) dX11_line_147 z_mX7_get z_vX7_get z_wX11_143 (gX7_get hst fu s5 x33 a1) rfl rfl (by decide) rfl rfl ⟨by decide, by decide, by decide, by decide, Nat.le_of_ble_eq_true rfl⟩ rfl (fun x35 s34 => ?_)
            exact G_iret (pc := 150) dX11_line_150
          · refine G_ite (fun h5 => ?_) (fun h5 => ?_)
            · refine G_tableIn (off := 126) (tgt := 151) (pc := 25) dX11_line_25 (by omega) (by rw [h5]; rfl) (by decide) ?_
              refine G_aload_n (x := a0) (pc := 151) dX11_line_151 rfl ?_
              refine G_getR (j := 10) (pc := 152) dX11_line_152 rfl z_CLX11 (by decide) z_wX11_86 (by decide) (fun x36 => ?_)
              refine G_getR (j := 15) (pc := 155) dX11_line_155 rfl z_CLX3 (by decide) z_wX11_238 (by decide) (fun x37 => ?_)
              refine G_iload_n (x := a1) (pc := 158) dX11_line_158 rfl ?_
              refine G_iconst (pc := 159) dX11_line_159 ?_
              refine G_iadd (pc := 160) dX11_line_160 (fun x38 => ?_)
              refine G_callVI (as := [vI x38]) (st := []) (c := 7) (bc2 := 0) (bs2 := 0) (pc := 161) dX11_line_161 z_mX7_get z_vX7_get z_wX11_143 (gX7_get hst fu s5 x37 x38) rfl rfl (by decide) rfl rfl ⟨by decide, by decide, by decide, by decide, Nat.le_of_ble_eq_true rfl⟩ rfl (fun x40 s39 => ?_)
              refine G_aload_n (x := a0) (pc := 164) dX11_line_164 rfl ?_
              refine G_getR (j := 10) (pc := 165) dX11_line_165 rfl z_CLX11 (by decide) z_wX11_86 (by decide) (fun x41 => ?_)
              refine G_getR (j := 15) (pc := 168) dX11_line_168 rfl z_CLX3 (by decide) z_wX11_238 (by decide) (fun x42 => ?_)
              refine G_iload_n (x := a1) (pc := 171) dX11_line_171 rfl ?_
              refine G_callVI (as := [vI a1]) (st := [vI x40]) (c := 7) (bc2 := 0) (bs2 := 0) (pc := 172) dX11_line_172 z_mX7_get z_vX7_get z_wX11_143 (gX7_get hst fu s39 x42 a1) rfl rfl (by decide) rfl rfl ⟨by decide, by decide, by decide, by decide, Nat.le_of_ble_eq_true rfl⟩ rfl (fun x44 s43 => ?_)
              refine G_isub (pc := 175) dX11_line_175 (fun x45 => ?_)
              exact G_iret (pc := 176) dX11_line_176
            · refine G_ite (fun h6 => ?_) (fun h6 => ?_)
              · refine G_tableIn (off := 152) (tgt := 177) (pc := 25) dX11_line_25 (by omega) (by rw [h6]; rfl) (by decide) ?_
                refine G_aload_n (x := a0) (pc := 177) dX11_line_177 rfl ?_
                refine G_getR (j := 10) (pc := 178) dX11_line_178 rfl z_CLX11 (by decide) z_wX11_86 (by decide) (fun x46 => ?_)
                refine G_getR (j := 13) (pc := 181) dX11_line_181 rfl z_CLX3 (by decide) z_wX11_241 (by decide) (fun x47 => ?_)
                refine G_iload_n (x := a1) (pc := 184) dX11_line_184 rfl ?_
                refine G_callVI (as := [vI a1]) (st := []) (c := 7) (bc2 := 0) (bs2 := 0) (pc := 185) dX11_line_185 z_mX7_get z_vX7_get z_wX11_143 (gX7_get hst fu s5 x47 a1) rfl rfl (by decide) rfl rfl ⟨by decide, by decide, by decide, by decide, Nat.le_of_ble_eq_true rfl⟩ rfl (fun x49 s48 => ?_)
                exact G_iret (pc := 188) dX11_line_188
              · refine G_tableOut (tgt := 189) (pc := 25) dX11_line_25 (by omega) ?_
                refine G_aload_n (x := a0) (pc := 189) dX11_line_189 rfl ?_
                refine G_getR (j := 10) (pc := 190) dX11_line_190 rfl z_CLX11 (by decide) z_wX11_86 (by decide) (fun x50 => ?_)
                refine G_getR (j := 14) (pc := 193) dX11_line_193 rfl z_CLX3 (by decide) z_wX11_244 (by decide) (fun x51 => ?_)
                refine G_iload_n (x := a1) (pc := 196) dX11_line_196 rfl ?_
                refine G_callVI (as := [vI a1]) (st := []) (c := 7) (bc2 := 0) (bs2 := 0) (pc := 197) dX11_line_197 z_mX7_get z_vX7_get z_wX11_143 (gX7_get hst fu s5 x51 a1) rfl rfl (by decide) rfl rfl ⟨by decide, by decide, by decide, by decide, Nat.le_of_ble_eq_true rfl⟩ rfl (fun x53 s52 => ?_)
                exact G_iret (pc := 200) dX11_line_200
def fX11_block (fu : Nat) (s : z_M) (a0 : Int) (a1 : Int) (a2 : Int) : z_O := if z_ob a0 11 then z_bN (fX11_refresh fu s a0) (fun s1 => if z_ob a0 11 then z_let (z_gr a0 10) (fun x2 => if z_ob x2 3 then z_let (z_gr x2 5) (fun x3 => if z_ob x3 0 then z_let (s1 x3 9) (fun x4 => if z_ob a0 11 then z_bN (fX11_needExisting fu s1 a0 a1 x4) (fun s5 => if z_ob a0 11 then z_bN (fX11_needWithin fu s5 a0 a2 0 7) (fun s6 => if a2 = (0 : Int) then (if z_ob x3 0 then z_let (z_gr x3 1) (fun x7 => if z_ob x7 7 then z_bI (fX7_get fu s6 x7 a1) (fun x9 s8 => some (vI x9, s8)) else none) else none) else (if a2 = (1 : Int) then (if z_ob x3 0 then z_let (z_gr x3 2) (fun x10 => if z_ob x10 7 then z_bI (fX7_get fu s6 x10 a1) (fun x12 s11 => if z_ob x3 0 then z_let (z_gr x3 1) (fun x13 => if z_ob x13 7 then z_bI (fX7_get fu s11 x13 a1) (fun x15 s14 => z_let (z_w (x12 - x15)) (fun x16 => z_let (z_w (x16 + 1)) (fun x17 => some (vI x17, s14)))) else none) else none) else none) else none) else (if a2 = (2 : Int) then (if z_ob x3 0 then z_let (z_gr x3 3) (fun x18 => if z_ob x18 7 then z_bI (fX7_get fu s6 x18 a1) (fun x20 s19 => some (vI x20, s19)) else none) else none) else (if a2 = (3 : Int) then (if z_ob x3 0 then z_let (z_gr x3 4) (fun x21 => if z_ob x21 7 then z_bI (fX7_get fu s6 x21 a1) (fun x23 s22 => some (vI x23, s22)) else none) else none) else (if a2 = (4 : Int) then (if z_ob x3 0 then z_let (z_gr x3 5) (fun x24 => if z_ob x24 7 then z_bI (fX7_get fu s6 x24 a1) (fun x26 s25 => some (vI x26, s25)) else none) else none) else (if a2 = (5 : Int) then (if z_ob x3 0 then z_let (z_gr x3 6) (fun x27 => if z_ob x27 7 then z_bI (fX7_get fu s6 x27 a1) (fun x29 s28 => some (vI x29, s28)) else none) else none) else (if a2 = (6 : Int) then (if z_ob x3 0 then z_bI (fX0_padAhead fu s6 x3 a1) (fun x31 s30 => some (vI x31, s30)) else none) else (if z_ob x3 0 then z_bI (fX0_padBehind fu s6 x3 a1) (fun x33 s32 => some (vI x33, s32)) else none)))))))) else none) else none) else none) else none) else none) else none
theorem gX11_block {l : Launch} {K : z_K} (hst : l.stackTraces = false) (fu : Nat) (s : z_M) (a0 : Int) (a1 : Int) (a2 : Int) : z_D l K mX11_block 7 172 2 12 [vR a0, vI a1, vI a2] s (fX11_block fu s a0 a1 a2) := by
  refine z_D_of (lv := [vR a0, vI a1, vI a2, vU]) hst z_mX11_block rfl ?_ (Nat.le_of_ble_eq_true rfl) rfl
  unfold fX11_block
  refine G_aload_n (x := a0) (pc := 0) dX11_block_0 rfl ?_
  refine G_callVN (as := []) (st := []) (c := 11) (bc2 := 2) (bs2 := 12) (pc := 1) dX11_block_1 z_mX11_refresh z_vX11_refresh z_wX11_124 (gX11_refresh hst fu s a0) rfl rfl (by decide) rfl rfl ⟨by decide, by decide, by decide, by decide, Nat.le_of_ble_eq_true rfl⟩ rfl (fun s1 => ?_)
  refine G_aload_n (x := a0) (pc := 4) dX11_block_4 rfl ?_
  refine G_getR (j := 10) (pc := 5) dX11_block_5 rfl z_CLX11 (by decide) z_wX11_86 (by decide) (fun x2 => ?_)
  refine G_getR (j := 5) (pc := 8) dX11_block_8 rfl z_CLX3 (by decide) z_wX11_247 (by decide) (fun x3 => ?_)
  refine G_astore_n (lv' := [vR a0, vI a1, vI a2, vR x3]) (pc := 11) dX11_block_11 rfl ?_
  refine G_aload_n (x := a0) (pc := 12) dX11_block_12 rfl ?_
  refine G_iload_n (x := a1) (pc := 13) dX11_block_13 rfl ?_
  refine G_aload_n (x := x3) (pc := 14) dX11_block_14 rfl ?_
  refine G_getI (j := 9) (pc := 15) dX11_block_15 rfl z_CLX0 (by decide) z_wX11_251 (by decide) (fun x4 => ?_)
  refine G_callVN (as := [vI a1, vI x4]) (st := []) (c := 11) (bc2 := 1) (bs2 := 6) (pc := 18) dX11_block_18 z_mX11_needExisting z_vX11_needExisting z_wX11_153 (gX11_needExisting hst fu s1 a0 a1 x4) rfl rfl (by decide) rfl rfl ⟨by decide, by decide, by decide, by decide, Nat.le_of_ble_eq_true rfl⟩ rfl (fun s5 => ?_)
  refine G_aload_n (x := a0) (pc := 21) dX11_block_21 rfl ?_
  refine G_iload_n (x := a2) (pc := 22) dX11_block_22 rfl ?_
  refine G_iconst (pc := 23) dX11_block_23 ?_
  refine G_bipush (pc := 24) dX11_block_24 ?_
  refine G_callVN (as := [vI a2, vI 0, vI 7]) (st := []) (c := 11) (bc2 := 0) (bs2 := 0) (pc := 26) dX11_block_26 z_mX11_needWithin z_vX11_needWithin z_wX11_113 (gX11_needWithin hst fu s5 a0 a2 0 7) rfl rfl (by decide) rfl rfl ⟨by decide, by decide, by decide, by decide, Nat.le_of_ble_eq_true rfl⟩ rfl (fun s6 => ?_)
  refine G_iload_n (x := a2) (pc := 29) dX11_block_29 rfl ?_
  refine G_ite (fun h0 => ?_) (fun h0 => ?_)
  · refine G_tableIn (off := 42) (tgt := 72) (pc := 30) dX11_block_30 (by omega) (by rw [h0]; rfl) (by decide) ?_
    refine G_aload_n (x := x3) (pc := 72) dX11_block_72 rfl ?_
    refine G_getR (j := 1) (pc := 73) dX11_block_73 rfl z_CLX0 (by decide) z_wX11_254 (by decide) (fun x7 => ?_)
    refine G_iload_n (x := a1) (pc := 76) dX11_block_76 rfl ?_
    refine G_callVI (as := [vI a1]) (st := []) (c := 7) (bc2 := 0) (bs2 := 0) (pc := 77) dX11_block_77 z_mX7_get z_vX7_get z_wX11_143 (gX7_get hst fu s6 x7 a1) rfl rfl (by decide) rfl rfl ⟨by decide, by decide, by decide, by decide, Nat.le_of_ble_eq_true rfl⟩ rfl (fun x9 s8 => ?_)
    exact G_iret (pc := 80) dX11_block_80
  · refine G_ite (fun h1 => ?_) (fun h1 => ?_)
    · refine G_tableIn (off := 51) (tgt := 81) (pc := 30) dX11_block_30 (by omega) (by rw [h1]; rfl) (by decide) ?_
      refine G_aload_n (x := x3) (pc := 81) dX11_block_81 rfl ?_
      refine G_getR (j := 2) (pc := 82) dX11_block_82 rfl z_CLX0 (by decide) z_wX11_255 (by decide) (fun x10 => ?_)
      refine G_iload_n (x := a1) (pc := 85) dX11_block_85 rfl ?_
      refine G_callVI (as := [vI a1]) (st := []) (c := 7) (bc2 := 0) (bs2 := 0) (pc := 86) dX11_block_86 z_mX7_get z_vX7_get z_wX11_143 (gX7_get hst fu s6 x10 a1) rfl rfl (by decide) rfl rfl ⟨by decide, by decide, by decide, by decide, Nat.le_of_ble_eq_true rfl⟩ rfl (fun x12 s11 => ?_)
      refine G_aload_n (x := x3) (pc := 89) dX11_block_89 rfl ?_
      refine G_getR (j := 1) (pc := 90) dX11_block_90 rfl z_CLX0 (by decide) z_wX11_254 (by decide) (fun x13 => ?_)
      refine G_iload_n (x := a1) (pc := 93) dX11_block_93 rfl ?_
      refine G_callVI (as := [vI a1]) (st := [vI x12]) (c := 7) (bc2 := 0) (bs2 := 0) (pc := 94) dX11_block_94 z_mX7_get z_vX7_get z_wX11_143 (gX7_get hst fu s11 x13 a1) rfl rfl (by decide) rfl rfl ⟨by decide, by decide, by decide, by decide, Nat.le_of_ble_eq_true rfl⟩ rfl (fun x15 s14 => ?_)
      refine G_isub (pc := 97) dX11_block_97 (fun x16 => ?_)
      refine G_iconst (pc := 98) dX11_block_98 ?_
      refine G_iadd (pc := 99) dX11_block_99 (fun x17 => ?_)
      exact G_iret (pc := 100) dX11_block_100
    · refine G_ite (fun h2 => ?_) (fun h2 => ?_)
      · refine G_tableIn (off := 71) (tgt := 101) (pc := 30) dX11_block_30 (by omega) (by rw [h2]; rfl) (by decide) ?_
        refine G_aload_n (x := x3) (pc := 101) dX11_block_101 rfl ?_
        refine G_getR (j := 3) (pc := 102) dX11_block_102 rfl z_CLX0 (by decide) z_wX11_258 (by decide) (fun x18 => ?_)
        refine G_iload_n (x := a1) (pc := 105) dX11_block_105 rfl ?_
        refine G_callVI (as := [vI a1]) (st := []) (c := 7) (bc2 := 0) (bs2 := 0) (pc := 106) dX11_block_106 z_mX7_get z_vX7_get z_wX11_143 (gX7_get hst fu s6 x18 a1) rfl rfl (by decide) rfl rfl ⟨by decide, by decide, by decide, by decide, Nat.le_of_ble_eq_true rfl⟩ rfl (fun x20 s19 => ?_)
        exact G_iret (pc := 109) dX11_block_109
      · refine G_ite (fun h3 => ?_) (fun h3 => ?_)
        · refine G_tableIn (off := 80) (tgt := 110) (pc := 30) dX11_block_30 (by omega) (by rw [h3]; rfl) (by decide) ?_
          refine G_aload_n (x := x3) (pc := 110) dX11_block_110 rfl ?_
          refine G_getR (j := 4) (pc := 111) dX11_block_111 rfl z_CLX0 (by decide) z_wX11_261 (by decide) (fun x21 => ?_)
          refine G_iload_n (x := a1) (pc := 114) dX11_block_114 rfl ?_
          refine G_callVI (as := [vI a1]) (st := []) (c := 7) (bc2 := 0) (bs2 := 0) (pc := 115) dX11_block_115 z_mX7_get z_vX7_get z_wX11_143 (gX7_get hst fu s6 x21 a1) rfl rfl (by decide) rfl rfl ⟨by decide, by decide, by decide, by decide, Nat.le_of_ble_eq_true rfl⟩ rfl (fun x23 s22 => ?_)
          exact G_iret (pc := 118) dX11_block_118
        · refine G_ite (fun h4 => ?_) (fun h4 => ?_)
          · refine G_tableIn (off := 89) (tgt := 119) (pc := 30) dX11_block_30 (by omega) (by rw [h4]; rfl) (by decide) ?_
            refine G_aload_n (x := x3) (pc := 119) dX11_block_119 rfl ?_
            refine G_getR (j := 5) (pc := 120) dX11_block_120 rfl z_CLX0 (by decide) z_wX11_264 (by decide) (fun x24 => ?_)
            refine G_iload_n (x := a1) (pc := 123) dX11_block_123 rfl ?_
            refine G_callVI (as := [vI a1]) (st := []) (c := 7) (bc2 := 0) (bs2 := 0) (pc := 124) dX11_block_124 z_mX7_get z_vX7_get z_wX11_143 (gX7_get hst fu s6 x24 a1) rfl rfl (by decide) rfl rfl ⟨by decide, by decide, by decide, by decide, Nat.le_of_ble_eq_true rfl⟩ rfl (fun x26 s25 => ?_)
            exact G_iret (pc := 127) dX11_block_127
          · refine G_ite (fun h5 => ?_) (fun h5 => ?_)
            · refine G_tableIn (off := 98) (tgt := 128) (pc := 30) dX11_block_30 (by omega) (by rw [h5]; rfl) (by decide) ?_
              refine G_aload_n (x := x3) (pc := 128) dX11_block_128 rfl ?_
              refine G_getR (j := 6) (pc := 129) dX11_block_129 rfl z_CLX0 (by decide) z_wX11_267 (by decide) (fun x27 => ?_)
              refine G_iload_n (x := a1) (pc := 132) dX11_block_132 rfl ?_
              refine G_callVI (as := [vI a1]) (st := []) (c := 7) (bc2 := 0) (bs2 := 0) (pc := 133) dX11_block_133 z_mX7_get z_vX7_get z_wX11_143 (gX7_get hst fu s6 x27 a1) rfl rfl (by decide) rfl rfl ⟨by decide, by decide, by decide, by decide, Nat.le_of_ble_eq_true rfl⟩ rfl (fun x29 s28 => ?_)
              exact G_iret (pc := 136) dX11_block_136
            · refine G_ite (fun h6 => ?_) (fun h6 => ?_)
              · refine G_tableIn (off := 107) (tgt := 137) (pc := 30) dX11_block_30 (by omega) (by rw [h6]; rfl) (by decide) ?_
                refine G_aload_n (x := x3) (pc := 137) dX11_block_137 rfl ?_
                refine G_iload_n (x := a1) (pc := 138) dX11_block_138 rfl ?_
                refine G_callVI (as := [vI a1]) (st := []) (c := 0) (bc2 := 0) (bs2 := 0) (pc := 139) dX11_block_139 z_mX0_padAhead z_vX0_padAhead z_wX11_270 (gX0_padAhead hst fu s6 x3 a1) rfl rfl (by decide) rfl rfl ⟨by decide, by decide, by decide, by decide, Nat.le_of_ble_eq_true rfl⟩ rfl (fun x31 s30 => ?_)
                exact G_iret (pc := 142) dX11_block_142
              · refine G_tableOut (tgt := 143) (pc := 30) dX11_block_30 (by omega) ?_
                refine G_aload_n (x := x3) (pc := 143) dX11_block_143 rfl ?_
                refine G_iload_n (x := a1) (pc := 144) dX11_block_144 rfl ?_
                refine G_callVI (as := [vI a1]) (st := []) (c := 0) (bc2 := 0) (bs2 := 0) (pc := 145) dX11_block_145 z_mX0_padBehind z_vX0_padBehind z_wX11_273 (gX0_padBehind hst fu s6 x3 a1) rfl rfl (by decide) rfl rfl ⟨by decide, by decide, by decide, by decide, Nat.le_of_ble_eq_true rfl⟩ rfl (fun x33 s32 => ?_)
                exact G_iret (pc := 148) dX11_block_148
def fX0_letters_J23 (fu : Nat) (s : z_M) (t0 : Int) : z_O := some (vI t0, s)
theorem gX0_letters_J23 {l : Launch} {K : z_K} (hst : l.stackTraces = false) (fu : Nat) (s : z_M) (t0 : Int) : G l K mX0_letters 1 21 0 0 23 [vU, vU, vU] [vI t0] s (fX0_letters_J23 fu s t0) := by
  unfold fX0_letters_J23
  exact G_iret (pc := 23) dX0_letters_23
def fX0_letters (fu : Nat) (s : z_M) (a0 : Int) (a1 : Int) (a2 : Int) : z_O := if (a2 : Int) ≠ 0 then (if z_ob a0 0 then z_let (z_gr a0 8) (fun x1 => if z_ob x1 7 then z_bI (fX7_get fu s x1 a1) (fun x3 s2 => fX0_letters_J23 fu s2 x3) else none) else none) else (if z_ob a0 0 then z_let (z_gr a0 7) (fun x4 => if z_ob x4 7 then z_bI (fX7_get fu s x4 a1) (fun x6 s5 => fX0_letters_J23 fu s5 x6) else none) else none)
theorem gX0_letters {l : Launch} {K : z_K} (hst : l.stackTraces = false) (fu : Nat) (s : z_M) (a0 : Int) (a1 : Int) (a2 : Int) : z_D l K mX0_letters 1 21 0 0 [vR a0, vI a1, vI a2] s (fX0_letters fu s a0 a1 a2) := by
  refine z_D_of (lv := [vR a0, vI a1, vI a2]) hst z_mX0_letters rfl ?_ (Nat.le_of_ble_eq_true rfl) rfl
  unfold fX0_letters
  refine G_iload_n (x := a2) (pc := 0) dX0_letters_0 rfl ?_
  refine G_if_ne (tgt := 15) (pc := 1) dX0_letters_1 ?_ ?_
  · refine G_aload_n (x := a0) (pc := 15) dX0_letters_15 rfl ?_
    refine G_getR (j := 8) (pc := 16) dX0_letters_16 rfl z_CLX0 (by decide) z_wX0_38 (by decide) (fun x1 => ?_)
    refine G_iload_n (x := a1) (pc := 19) dX0_letters_19 rfl ?_
    refine G_callVI (as := [vI a1]) (st := []) (c := 7) (bc2 := 0) (bs2 := 0) (pc := 20) dX0_letters_20 z_mX7_get z_vX7_get z_wX0_49 (gX7_get hst fu s x1 a1) rfl rfl (by decide) rfl rfl ⟨by decide, by decide, by decide, by decide, Nat.le_of_ble_eq_true rfl⟩ rfl (fun x3 s2 => ?_)
    refine G_fg (lv2 := [vU, vU, vU]) ⟨Or.inl rfl, Or.inl rfl, Or.inl rfl, trivial⟩ ?_
    exact gX0_letters_J23 hst fu s2 x3
  · refine G_aload_n (x := a0) (pc := 4) dX0_letters_4 rfl ?_
    refine G_getR (j := 7) (pc := 5) dX0_letters_5 rfl z_CLX0 (by decide) z_wX0_35 (by decide) (fun x4 => ?_)
    refine G_iload_n (x := a1) (pc := 8) dX0_letters_8 rfl ?_
    refine G_callVI (as := [vI a1]) (st := []) (c := 7) (bc2 := 0) (bs2 := 0) (pc := 9) dX0_letters_9 z_mX7_get z_vX7_get z_wX0_49 (gX7_get hst fu s x4 a1) rfl rfl (by decide) rfl rfl ⟨by decide, by decide, by decide, by decide, Nat.le_of_ble_eq_true rfl⟩ rfl (fun x6 s5 => ?_)
    refine G_goto (tgt := 23) (pc := 12) dX0_letters_12 ?_
    refine G_fg (lv2 := [vU, vU, vU]) ⟨Or.inl rfl, Or.inl rfl, Or.inl rfl, trivial⟩ ?_
    exact gX0_letters_J23 hst fu s5 x6
def fX9_letterCode (fu : Nat) (s : z_M) (a0 : Int) (a1 : Int) (a2 : Int) (a3 : Int) : z_O := if z_ob a0 9 then z_bR (fX9_readings fu s a0 a1) (fun x2 s1 => if z_ob x2 4 then z_bL (fX4_get fu s1 x2 a2) (fun x4 s3 => z_let (z_w (5 * a3)) (fun x5 => z_let (z_w (4 + x5)) (fun x6 => z_let (z_lshr x4 x6) (fun x7 => z_let (z_landl x7 31) (fun x8 => z_let (z_w x8) (fun x9 => z_let (z_w (97 + x9)) (fun x10 => some (vI x10, s3)))))))) else none) else none
theorem gX9_letterCode {l : Launch} {K : z_K} (hst : l.stackTraces = false) (fu : Nat) (s : z_M) (a0 : Int) (a1 : Int) (a2 : Int) (a3 : Int) : z_D l K mX9_letterCode 1 21 0 0 [vR a0, vI a1, vI a2, vI a3] s (fX9_letterCode fu s a0 a1 a2 a3) := by
  refine z_D_of (lv := [vR a0, vI a1, vI a2, vI a3]) hst z_mX9_letterCode rfl ?_ (Nat.le_of_ble_eq_true rfl) rfl
  unfold fX9_letterCode
  refine G_bipush (pc := 0) dX9_letterCode_0 ?_
  refine G_aload_n (x := a0) (pc := 2) dX9_letterCode_2 rfl ?_
  refine G_iload_n (x := a1) (pc := 3) dX9_letterCode_3 rfl ?_
  refine G_callVR (as := [vI a1]) (st := [vI 97]) (c := 9) (bc2 := 0) (bs2 := 0) (pc := 4) dX9_letterCode_4 z_mX9_readings z_vX9_readings z_wX9_75 (gX9_readings hst fu s a0 a1) rfl rfl (by decide) rfl rfl ⟨by decide, by decide, by decide, by decide, Nat.le_of_ble_eq_true rfl⟩ rfl (fun x2 s1 => ?_)
  refine G_iload_n (x := a2) (pc := 7) dX9_letterCode_7 rfl ?_
  refine G_callVL (as := [vI a2]) (st := [vI 97]) (c := 4) (bc2 := 0) (bs2 := 0) (pc := 8) dX9_letterCode_8 z_mX4_get z_vX4_get z_wX9_79 (gX4_get hst fu s1 x2 a2) rfl rfl (by decide) rfl rfl ⟨by decide, by decide, by decide, by decide, Nat.le_of_ble_eq_true rfl⟩ rfl (fun x4 s3 => ?_)
  refine G_iconst (pc := 11) dX9_letterCode_11 ?_
  refine G_iconst (pc := 12) dX9_letterCode_12 ?_
  refine G_iload_n (x := a3) (pc := 13) dX9_letterCode_13 rfl ?_
  refine G_imul (pc := 14) dX9_letterCode_14 (fun x5 => ?_)
  refine G_iadd (pc := 15) dX9_letterCode_15 (fun x6 => ?_)
  refine G_lshr (pc := 16) dX9_letterCode_16 (fun x7 => ?_)
  refine G_ldc2 (pc := 17) dX9_letterCode_17 z_wX9_84 ?_
  refine G_land (pc := 20) dX9_letterCode_20 (fun x8 => ?_)
  refine G_l2i (pc := 21) dX9_letterCode_21 (fun x9 => ?_)
  refine G_iadd (pc := 22) dX9_letterCode_22 (fun x10 => ?_)
  exact G_iret (pc := 23) dX9_letterCode_23
def fX3_letterCode_L16 (fu : Nat) (a0 : Int) (a1 : Int) (a2 : Int) : Nat → z_M → Int → Int → (z_M → z_O) → z_O
  | 0, _, _, _, _ => none
  | F + 1, s, a4, a5, k => if z_ob a0 3 then z_let (z_gr a0 5) (fun x5 => if z_ob x5 0 then z_let (z_gr x5 2) (fun x6 => if z_ob x6 7 then z_bI (fX7_get fu s x6 a1) (fun x8 s7 => if (x8 : Int) < a5 then (k s7) else (if z_ob a0 3 then z_let (z_gr a0 1) (fun x9 => if z_ob x9 10 then z_let (z_gr x9 3) (fun x10 => if z_ob x10 7 then z_bI (fX7_get fu s7 x10 a5) (fun x12 s11 => if z_ob a0 3 then z_let (z_gr a0 0) (fun x13 => if z_ob x13 9 then z_bI (fX9_letterCount fu s11 x13 a2 x12) (fun x15 s14 => if (x15 : Int) ≤ a4 then (z_let (z_w (a4 - x15)) (fun x16 => z_let (z_w (a5 + 1)) (fun x17 => fX3_letterCode_L16 fu a0 a1 a2 F s14 x16 x17 k))) else (if z_ob a0 3 then z_let (z_gr a0 0) (fun x18 => if z_ob x18 9 then z_bI (fX9_letterCode fu s14 x18 a2 x12 a4) (fun x20 s19 => some (vI x20, s19)) else none) else none)) else none) else none) else none) else none) else none)) else none) else none) else none
theorem gX3_letterCode_L16 {l : Launch} {K : z_K} (hst : l.stackTraces = false) (fu : Nat) (a0 : Int) (a1 : Int) (a2 : Int) (k : z_M → z_O) (hk : ∀ (s : z_M), G l K mX3_letterCode 2 44 0 0 91 [vU, vU, vU, vU, vU, vU, vU, vU] [] s (k s)) : ∀ (F : Nat) (s : z_M) (a4 : Int) (a5 : Int), G l K mX3_letterCode 2 44 0 0 16 [vR a0, vI a1, vI a2, vU, vI a4, vI a5, vU, vU] [] s (fX3_letterCode_L16 fu a0 a1 a2 F s a4 a5 k) := by
  intro F
  induction F with
  | zero => exact fun s a4 a5 h => absurd rfl h
  | succ F ih =>
    intro s a4 a5
    rw [fX3_letterCode_L16]
    refine G_iload (x := a5) (pc := 16) dX3_letterCode_16 rfl ?_
    refine G_aload_n (x := a0) (pc := 18) dX3_letterCode_18 rfl ?_
    refine G_getR (j := 5) (pc := 19) dX3_letterCode_19 rfl z_CLX3 (by decide) z_wX3_71 (by decide) (fun x5 => ?_)
    refine G_getR (j := 2) (pc := 22) dX3_letterCode_22 rfl z_CLX0 (by decide) z_wX3_161 (by decide) (fun x6 => ?_)
    refine G_iload_n (x := a1) (pc := 25) dX3_letterCode_25 rfl ?_
    refine G_callVI (as := [vI a1]) (st := [vI a5]) (c := 7) (bc2 := 0) (bs2 := 0) (pc := 26) dX3_letterCode_26 z_mX7_get z_vX7_get z_wX3_98 (gX7_get hst fu s x6 a1) rfl rfl (by decide) rfl rfl ⟨by decide, by decide, by decide, by decide, Nat.le_of_ble_eq_true rfl⟩ rfl (fun x8 s7 => ?_)
    refine G_icmp_gt (tgt := 91) (pc := 29) dX3_letterCode_29 ?_ ?_
    · refine G_fg (lv2 := [vU, vU, vU, vU, vU, vU, vU, vU]) ⟨Or.inl rfl, Or.inl rfl, Or.inl rfl, Or.inl rfl, Or.inl rfl, Or.inl rfl, Or.inl rfl, Or.inl rfl, trivial⟩ ?_
      exact hk s7
    · refine G_aload_n (x := a0) (pc := 32) dX3_letterCode_32 rfl ?_
      refine G_getR (j := 1) (pc := 33) dX3_letterCode_33 rfl z_CLX3 (by decide) z_wX3_51 (by decide) (fun x9 => ?_)
      refine G_getR (j := 3) (pc := 36) dX3_letterCode_36 rfl z_CLX10 (by decide) z_wX3_170 (by decide) (fun x10 => ?_)
      refine G_iload (x := a5) (pc := 39) dX3_letterCode_39 rfl ?_
      refine G_callVI (as := [vI a5]) (st := []) (c := 7) (bc2 := 0) (bs2 := 0) (pc := 41) dX3_letterCode_41 z_mX7_get z_vX7_get z_wX3_98 (gX7_get hst fu s7 x10 a5) rfl rfl (by decide) rfl rfl ⟨by decide, by decide, by decide, by decide, Nat.le_of_ble_eq_true rfl⟩ rfl (fun x12 s11 => ?_)
      refine G_istore (lv' := [vR a0, vI a1, vI a2, vU, vI a4, vI a5, vI x12, vU]) (pc := 44) dX3_letterCode_44 rfl ?_
      refine G_aload_n (x := a0) (pc := 46) dX3_letterCode_46 rfl ?_
      refine G_getR (j := 0) (pc := 47) dX3_letterCode_47 rfl z_CLX3 (by decide) z_wX3_47 (by decide) (fun x13 => ?_)
      refine G_iload_n (x := a2) (pc := 50) dX3_letterCode_50 rfl ?_
      refine G_iload (x := x12) (pc := 51) dX3_letterCode_51 rfl ?_
      refine G_callVI (as := [vI a2, vI x12]) (st := []) (c := 9) (bc2 := 0) (bs2 := 0) (pc := 53) dX3_letterCode_53 z_mX9_letterCount z_vX9_letterCount z_wX3_182 (gX9_letterCount hst fu s11 x13 a2 x12) rfl rfl (by decide) rfl rfl ⟨by decide, by decide, by decide, by decide, Nat.le_of_ble_eq_true rfl⟩ rfl (fun x15 s14 => ?_)
      refine G_istore (lv' := [vR a0, vI a1, vI a2, vU, vI a4, vI a5, vI x12, vI x15]) (pc := 56) dX3_letterCode_56 rfl ?_
      refine G_iload (x := a4) (pc := 58) dX3_letterCode_58 rfl ?_
      refine G_iload (x := x15) (pc := 60) dX3_letterCode_60 rfl ?_
      refine G_icmp_ge (tgt := 78) (pc := 62) dX3_letterCode_62 ?_ ?_
      · refine G_iload (x := a4) (pc := 78) dX3_letterCode_78 rfl ?_
        refine G_iload (x := x15) (pc := 80) dX3_letterCode_80 rfl ?_
        refine G_isub (pc := 82) dX3_letterCode_82 (fun x16 => ?_)
        refine G_istore (lv' := [vR a0, vI a1, vI a2, vU, vI x16, vI a5, vI x12, vI x15]) (pc := 83) dX3_letterCode_83 rfl ?_
        refine G_iinc (x := a5) (g := fun x17 => [vR a0, vI a1, vI a2, vU, vI x16, vI x17, vI x12, vI x15]) (pc := 85) dX3_letterCode_85 rfl (fun _ => rfl) (fun x17 => ?_)
        refine G_goto (tgt := 16) (pc := 88) dX3_letterCode_88 ?_
        refine G_fg (lv2 := [vR a0, vI a1, vI a2, vU, vI x16, vI x17, vU, vU]) ⟨Or.inr rfl, Or.inr rfl, Or.inr rfl, Or.inl rfl, Or.inr rfl, Or.inr rfl, Or.inl rfl, Or.inl rfl, trivial⟩ ?_
        exact ih s14 x16 x17
      · refine G_aload_n (x := a0) (pc := 65) dX3_letterCode_65 rfl ?_
        refine G_getR (j := 0) (pc := 66) dX3_letterCode_66 rfl z_CLX3 (by decide) z_wX3_47 (by decide) (fun x18 => ?_)
        refine G_iload_n (x := a2) (pc := 69) dX3_letterCode_69 rfl ?_
        refine G_iload (x := x12) (pc := 70) dX3_letterCode_70 rfl ?_
        refine G_iload (x := a4) (pc := 72) dX3_letterCode_72 rfl ?_
        refine G_callVI (as := [vI a2, vI x12, vI a4]) (st := []) (c := 9) (bc2 := 0) (bs2 := 0) (pc := 74) dX3_letterCode_74 z_mX9_letterCode z_vX9_letterCode z_wX3_187 (gX9_letterCode hst fu s14 x18 a2 x12 a4) rfl rfl (by decide) rfl rfl ⟨by decide, by decide, by decide, by decide, Nat.le_of_ble_eq_true rfl⟩ rfl (fun x20 s19 => ?_)
        exact G_iret (pc := 77) dX3_letterCode_77
def fX3_letterCode (fu : Nat) (s : z_M) (a0 : Int) (a1 : Int) (a2 : Int) (a3 : Int) : z_O := if z_ob a0 3 then z_let (z_gr a0 5) (fun x1 => if z_ob x1 0 then z_let (z_gr x1 1) (fun x2 => if z_ob x2 7 then z_bI (fX7_get fu s x2 a1) (fun x4 s3 => fX3_letterCode_L16 fu a0 a1 a2 fu s3 a3 x4 (fun s21 => some (vI (-1), s21))) else none) else none) else none
theorem gX3_letterCode {l : Launch} {K : z_K} (hst : l.stackTraces = false) (fu : Nat) (s : z_M) (a0 : Int) (a1 : Int) (a2 : Int) (a3 : Int) : z_D l K mX3_letterCode 2 44 0 0 [vR a0, vI a1, vI a2, vI a3] s (fX3_letterCode fu s a0 a1 a2 a3) := by
  refine z_D_of (lv := [vR a0, vI a1, vI a2, vI a3, vU, vU, vU, vU]) hst z_mX3_letterCode rfl ?_ (Nat.le_of_ble_eq_true rfl) rfl
  unfold fX3_letterCode
  refine G_iload_n (x := a3) (pc := 0) dX3_letterCode_0 rfl ?_
  refine G_istore (lv' := [vR a0, vI a1, vI a2, vI a3, vI a3, vU, vU, vU]) (pc := 1) dX3_letterCode_1 rfl ?_
  refine G_aload_n (x := a0) (pc := 3) dX3_letterCode_3 rfl ?_
  refine G_getR (j := 5) (pc := 4) dX3_letterCode_4 rfl z_CLX3 (by decide) z_wX3_71 (by decide) (fun x1 => ?_)
  refine G_getR (j := 1) (pc := 7) dX3_letterCode_7 rfl z_CLX0 (by decide) z_wX3_148 (by decide) (fun x2 => ?_)
  refine G_iload_n (x := a1) (pc := 10) dX3_letterCode_10 rfl ?_
  refine G_callVI (as := [vI a1]) (st := []) (c := 7) (bc2 := 0) (bs2 := 0) (pc := 11) dX3_letterCode_11 z_mX7_get z_vX7_get z_wX3_98 (gX7_get hst fu s x2 a1) rfl rfl (by decide) rfl rfl ⟨by decide, by decide, by decide, by decide, Nat.le_of_ble_eq_true rfl⟩ rfl (fun x4 s3 => ?_)
  refine G_istore (lv' := [vR a0, vI a1, vI a2, vI a3, vI a3, vI x4, vU, vU]) (pc := 14) dX3_letterCode_14 rfl ?_
  refine G_fg (lv2 := [vR a0, vI a1, vI a2, vU, vI a3, vI x4, vU, vU]) ⟨Or.inr rfl, Or.inr rfl, Or.inr rfl, Or.inl rfl, Or.inr rfl, Or.inr rfl, Or.inl rfl, Or.inl rfl, trivial⟩ ?_
  refine gX3_letterCode_L16 hst fu a0 a1 a2 _ (fun s21 => ?_) fu s3 a3 x4
  refine G_iconst (pc := 91) dX3_letterCode_91 ?_
  exact G_iret (pc := 92) dX3_letterCode_92
def fX3_letterPlace_J101 (fu : Nat) (s : z_M) (t0 : Int) : z_O := some (vI t0, s)
theorem gX3_letterPlace_J101 {l : Launch} {K : z_K} (hst : l.stackTraces = false) (fu : Nat) (s : z_M) (t0 : Int) : G l K mX3_letterPlace 2 43 0 0 101 [vU, vU, vU, vU, vU, vU, vU] [vI t0] s (fX3_letterPlace_J101 fu s t0) := by
  unfold fX3_letterPlace_J101
  exact G_iret (pc := 101) dX3_letterPlace_101
def fX3_letterPlace (fu : Nat) (s : z_M) (a0 : Int) (a1 : Int) (a2 : Int) (a3 : Int) : z_O := if z_ob a0 3 then z_let (z_gr a0 5) (fun x1 => if z_ob x1 0 then z_bI (fX0_letters fu s x1 a1 a2) (fun x3 s2 => if z_ob a0 3 then z_let (z_gr a0 5) (fun x4 => if z_ob x4 0 then z_let (z_gr x4 3) (fun x5 => if z_ob x5 7 then z_bI (fX7_get fu s2 x5 a1) (fun x7 s6 => if z_ob a0 3 then z_let (z_gr a0 7) (fun x8 => if z_ob a0 3 then z_let (z_gr a0 5) (fun x9 => if z_ob x9 0 then z_let (z_gr x9 1) (fun x10 => if z_ob x10 7 then z_bI (fX7_get fu s6 x10 a1) (fun x12 s11 => if z_ob x8 7 then z_bI (fX7_get fu s11 x8 x12) (fun x14 s13 => z_let (z_w (6 * x3)) (fun x15 => if (x15 : Int) ≤ x7 then (if (x3 : Int) ≤ 0 then (fX3_letterPlace_J101 fu s13 x14) else (z_let (z_w (2 * a3)) (fun x16 => z_let (z_w (x16 + 1)) (fun x17 => z_let (z_w (x7 * x17)) (fun x18 => z_let (z_w (2 * x3)) (fun x19 => if x19 ≠ 0 then z_let (z_w (Int.tdiv x18 x19)) (fun x20 => z_let (z_w (x14 + x20)) (fun x21 => z_let (z_w (x21 - 3)) (fun x22 => fX3_letterPlace_J101 fu s13 x22))) else none)))))) else (z_let (z_w (6 * x3)) (fun x23 => z_let (z_w (x23 - x7)) (fun x24 => if 2 ≠ 0 then z_let (z_w (Int.tdiv x24 2)) (fun x25 => z_let (z_w (x14 - x25)) (fun x26 => z_let (z_w (6 * a3)) (fun x27 => z_let (z_w (x26 + x27)) (fun x28 => some (vI x28, s13))))) else none))))) else none) else none) else none) else none) else none) else none) else none) else none) else none) else none
theorem gX3_letterPlace {l : Launch} {K : z_K} (hst : l.stackTraces = false) (fu : Nat) (s : z_M) (a0 : Int) (a1 : Int) (a2 : Int) (a3 : Int) : z_D l K mX3_letterPlace 2 43 0 0 [vR a0, vI a1, vI a2, vI a3] s (fX3_letterPlace fu s a0 a1 a2 a3) := by
  refine z_D_of (lv := [vR a0, vI a1, vI a2, vI a3, vU, vU, vU]) hst z_mX3_letterPlace rfl ?_ (Nat.le_of_ble_eq_true rfl) rfl
  unfold fX3_letterPlace
  refine G_aload_n (x := a0) (pc := 0) dX3_letterPlace_0 rfl ?_
  refine G_getR (j := 5) (pc := 1) dX3_letterPlace_1 rfl z_CLX3 (by decide) z_wX3_71 (by decide) (fun x1 => ?_)
  refine G_iload_n (x := a1) (pc := 4) dX3_letterPlace_4 rfl ?_
  refine G_iload_n (x := a2) (pc := 5) dX3_letterPlace_5 rfl ?_
  refine G_callVI (as := [vI a1, vI a2]) (st := []) (c := 0) (bc2 := 0) (bs2 := 0) (pc := 6) dX3_letterPlace_6 z_mX0_letters z_vX0_letters z_wX3_191 (gX0_letters hst fu s x1 a1 a2) rfl rfl (by decide) rfl rfl ⟨by decide, by decide, by decide, by decide, Nat.le_of_ble_eq_true rfl⟩ rfl (fun x3 s2 => ?_)
  refine G_istore (lv' := [vR a0, vI a1, vI a2, vI a3, vI x3, vU, vU]) (pc := 9) dX3_letterPlace_9 rfl ?_
  refine G_aload_n (x := a0) (pc := 11) dX3_letterPlace_11 rfl ?_
  refine G_getR (j := 5) (pc := 12) dX3_letterPlace_12 rfl z_CLX3 (by decide) z_wX3_71 (by decide) (fun x4 => ?_)
  refine G_getR (j := 3) (pc := 15) dX3_letterPlace_15 rfl z_CLX0 (by decide) z_wX3_194 (by decide) (fun x5 => ?_)
  refine G_iload_n (x := a1) (pc := 18) dX3_letterPlace_18 rfl ?_
  refine G_callVI (as := [vI a1]) (st := []) (c := 7) (bc2 := 0) (bs2 := 0) (pc := 19) dX3_letterPlace_19 z_mX7_get z_vX7_get z_wX3_98 (gX7_get hst fu s2 x5 a1) rfl rfl (by decide) rfl rfl ⟨by decide, by decide, by decide, by decide, Nat.le_of_ble_eq_true rfl⟩ rfl (fun x7 s6 => ?_)
  refine G_istore (lv' := [vR a0, vI a1, vI a2, vI a3, vI x3, vI x7, vU]) (pc := 22) dX3_letterPlace_22 rfl ?_
  refine G_aload_n (x := a0) (pc := 24) dX3_letterPlace_24 rfl ?_
  refine G_getR (j := 7) (pc := 25) dX3_letterPlace_25 rfl z_CLX3 (by decide) z_wX3_20 (by decide) (fun x8 => ?_)
  refine G_aload_n (x := a0) (pc := 28) dX3_letterPlace_28 rfl ?_
  refine G_getR (j := 5) (pc := 29) dX3_letterPlace_29 rfl z_CLX3 (by decide) z_wX3_71 (by decide) (fun x9 => ?_)
  refine G_getR (j := 1) (pc := 32) dX3_letterPlace_32 rfl z_CLX0 (by decide) z_wX3_148 (by decide) (fun x10 => ?_)
  refine G_iload_n (x := a1) (pc := 35) dX3_letterPlace_35 rfl ?_
  refine G_callVI (as := [vI a1]) (st := [vR x8]) (c := 7) (bc2 := 0) (bs2 := 0) (pc := 36) dX3_letterPlace_36 z_mX7_get z_vX7_get z_wX3_98 (gX7_get hst fu s6 x10 a1) rfl rfl (by decide) rfl rfl ⟨by decide, by decide, by decide, by decide, Nat.le_of_ble_eq_true rfl⟩ rfl (fun x12 s11 => ?_)
  refine G_callVI (as := [vI x12]) (st := []) (c := 7) (bc2 := 0) (bs2 := 0) (pc := 39) dX3_letterPlace_39 z_mX7_get z_vX7_get z_wX3_98 (gX7_get hst fu s11 x8 x12) rfl rfl (by decide) rfl rfl ⟨by decide, by decide, by decide, by decide, Nat.le_of_ble_eq_true rfl⟩ rfl (fun x14 s13 => ?_)
  refine G_istore (lv' := [vR a0, vI a1, vI a2, vI a3, vI x3, vI x7, vI x14]) (pc := 42) dX3_letterPlace_42 rfl ?_
  refine G_bipush (pc := 44) dX3_letterPlace_44 ?_
  refine G_iload (x := x3) (pc := 46) dX3_letterPlace_46 rfl ?_
  refine G_imul (pc := 48) dX3_letterPlace_48 (fun x15 => ?_)
  refine G_iload (x := x7) (pc := 49) dX3_letterPlace_49 rfl ?_
  refine G_icmp_le (tgt := 73) (pc := 51) dX3_letterPlace_51 ?_ ?_
  · refine G_iload (x := x3) (pc := 73) dX3_letterPlace_73 rfl ?_
    refine G_if_le (tgt := 99) (pc := 75) dX3_letterPlace_75 ?_ ?_
    · refine G_iload (x := x14) (pc := 99) dX3_letterPlace_99 rfl ?_
      refine G_fg (lv2 := [vU, vU, vU, vU, vU, vU, vU]) ⟨Or.inl rfl, Or.inl rfl, Or.inl rfl, Or.inl rfl, Or.inl rfl, Or.inl rfl, Or.inl rfl, trivial⟩ ?_
      exact gX3_letterPlace_J101 hst fu s13 x14
    · refine G_iload (x := x14) (pc := 78) dX3_letterPlace_78 rfl ?_
      refine G_iload (x := x7) (pc := 80) dX3_letterPlace_80 rfl ?_
      refine G_iconst (pc := 82) dX3_letterPlace_82 ?_
      refine G_iload_n (x := a3) (pc := 83) dX3_letterPlace_83 rfl ?_
      refine G_imul (pc := 84) dX3_letterPlace_84 (fun x16 => ?_)
      refine G_iconst (pc := 85) dX3_letterPlace_85 ?_
      refine G_iadd (pc := 86) dX3_letterPlace_86 (fun x17 => ?_)
      refine G_imul (pc := 87) dX3_letterPlace_87 (fun x18 => ?_)
      refine G_iconst (pc := 88) dX3_letterPlace_88 ?_
      refine G_iload (x := x3) (pc := 89) dX3_letterPlace_89 rfl ?_
      refine G_imul (pc := 91) dX3_letterPlace_91 (fun x19 => ?_)
      refine G_idiv (pc := 92) dX3_letterPlace_92 (fun x20 => ?_)
      refine G_iadd (pc := 93) dX3_letterPlace_93 (fun x21 => ?_)
      refine G_iconst (pc := 94) dX3_letterPlace_94 ?_
      refine G_isub (pc := 95) dX3_letterPlace_95 (fun x22 => ?_)
      refine G_goto (tgt := 101) (pc := 96) dX3_letterPlace_96 ?_
      refine G_fg (lv2 := [vU, vU, vU, vU, vU, vU, vU]) ⟨Or.inl rfl, Or.inl rfl, Or.inl rfl, Or.inl rfl, Or.inl rfl, Or.inl rfl, Or.inl rfl, trivial⟩ ?_
      exact gX3_letterPlace_J101 hst fu s13 x22
  · refine G_iload (x := x14) (pc := 54) dX3_letterPlace_54 rfl ?_
    refine G_bipush (pc := 56) dX3_letterPlace_56 ?_
    refine G_iload (x := x3) (pc := 58) dX3_letterPlace_58 rfl ?_
    refine G_imul (pc := 60) dX3_letterPlace_60 (fun x23 => ?_)
    refine G_iload (x := x7) (pc := 61) dX3_letterPlace_61 rfl ?_
    refine G_isub (pc := 63) dX3_letterPlace_63 (fun x24 => ?_)
    refine G_iconst (pc := 64) dX3_letterPlace_64 ?_
    refine G_idiv (pc := 65) dX3_letterPlace_65 (fun x25 => ?_)
    refine G_isub (pc := 66) dX3_letterPlace_66 (fun x26 => ?_)
    refine G_bipush (pc := 67) dX3_letterPlace_67 ?_
    refine G_iload_n (x := a3) (pc := 69) dX3_letterPlace_69 rfl ?_
    refine G_imul (pc := 70) dX3_letterPlace_70 (fun x27 => ?_)
    refine G_iadd (pc := 71) dX3_letterPlace_71 (fun x28 => ?_)
    exact G_iret (pc := 72) dX3_letterPlace_72
def fX11_reading_J112 (fu : Nat) (s : z_M) (t0 : Int) : z_O := some (vI t0, s)
theorem gX11_reading_J112 {l : Launch} {K : z_K} (hst : l.stackTraces = false) (fu : Nat) (s : z_M) (t0 : Int) : G l K mX11_reading 7 172 0 0 112 [vU, vU, vU, vU, vU, vU] [vI t0] s (fX11_reading_J112 fu s t0) := by
  unfold fX11_reading_J112
  exact G_iret (pc := 112) dX11_reading_112
def fX11_reading_J90 (fu : Nat) (s : z_M) (t0 : Int) : z_O := some (vI t0, s)
theorem gX11_reading_J90 {l : Launch} {K : z_K} (hst : l.stackTraces = false) (fu : Nat) (s : z_M) (t0 : Int) : G l K mX11_reading 7 172 0 0 90 [vU, vU, vU, vU, vU, vU] [vI t0] s (fX11_reading_J90 fu s t0) := by
  unfold fX11_reading_J90
  exact G_iret (pc := 90) dX11_reading_90
def fX11_reading_J64 (fu : Nat) (s : z_M) (a0 : Int) (a1 : Int) (a2 : Int) (a3 : Int) (a4 : Int) (t0 : Int) : z_O := if (a4 : Int) ≠ 0 then (if (t0 : Int) = 0 then (if z_ob a0 11 then z_let (z_gr a0 10) (fun x13 => if z_ob x13 3 then z_bI (fX3_letterPlace fu s x13 a1 a2 a3) (fun x15 s14 => fX11_reading_J112 fu s14 x15) else none) else none) else (fX11_reading_J112 fu s (-1000))) else (if (t0 : Int) = 0 then (if z_ob a0 11 then z_let (z_gr a0 10) (fun x16 => if z_ob x16 3 then z_bI (fX3_letterCode fu s x16 a1 a2 a3) (fun x18 s17 => fX11_reading_J90 fu s17 x18) else none) else none) else (fX11_reading_J90 fu s (-1)))
theorem gX11_reading_J64 {l : Launch} {K : z_K} (hst : l.stackTraces = false) (fu : Nat) (s : z_M) (a0 : Int) (a1 : Int) (a2 : Int) (a3 : Int) (a4 : Int) (t0 : Int) : G l K mX11_reading 7 172 0 0 64 [vR a0, vI a1, vI a2, vI a3, vI a4, vU] [vI t0] s (fX11_reading_J64 fu s a0 a1 a2 a3 a4 t0) := by
  unfold fX11_reading_J64
  refine G_istore (lv' := [vR a0, vI a1, vI a2, vI a3, vI a4, vI t0]) (pc := 64) dX11_reading_64 rfl ?_
  refine G_iload (x := a4) (pc := 66) dX11_reading_66 rfl ?_
  refine G_if_ne (tgt := 91) (pc := 68) dX11_reading_68 ?_ ?_
  · refine G_iload (x := t0) (pc := 91) dX11_reading_91 rfl ?_
    refine G_if_eq (tgt := 102) (pc := 93) dX11_reading_93 ?_ ?_
    · refine G_aload_n (x := a0) (pc := 102) dX11_reading_102 rfl ?_
      refine G_getR (j := 10) (pc := 103) dX11_reading_103 rfl z_CLX11 (by decide) z_wX11_86 (by decide) (fun x13 => ?_)
      refine G_iload_n (x := a1) (pc := 106) dX11_reading_106 rfl ?_
      refine G_iload_n (x := a2) (pc := 107) dX11_reading_107 rfl ?_
      refine G_iload_n (x := a3) (pc := 108) dX11_reading_108 rfl ?_
      refine G_callVI (as := [vI a1, vI a2, vI a3]) (st := []) (c := 3) (bc2 := 0) (bs2 := 0) (pc := 109) dX11_reading_109 z_mX3_letterPlace z_vX3_letterPlace z_wX11_284 (gX3_letterPlace hst fu s x13 a1 a2 a3) rfl rfl (by decide) rfl rfl ⟨by decide, by decide, by decide, by decide, Nat.le_of_ble_eq_true rfl⟩ rfl (fun x15 s14 => ?_)
      refine G_fg (lv2 := [vU, vU, vU, vU, vU, vU]) ⟨Or.inl rfl, Or.inl rfl, Or.inl rfl, Or.inl rfl, Or.inl rfl, Or.inl rfl, trivial⟩ ?_
      exact gX11_reading_J112 hst fu s14 x15
    · refine G_sipush (pc := 96) dX11_reading_96 ?_
      refine G_goto (tgt := 112) (pc := 99) dX11_reading_99 ?_
      refine G_fg (lv2 := [vU, vU, vU, vU, vU, vU]) ⟨Or.inl rfl, Or.inl rfl, Or.inl rfl, Or.inl rfl, Or.inl rfl, Or.inl rfl, trivial⟩ ?_
      exact gX11_reading_J112 hst fu s (-1000)
  · refine G_iload (x := t0) (pc := 71) dX11_reading_71 rfl ?_
    refine G_if_eq (tgt := 80) (pc := 73) dX11_reading_73 ?_ ?_
    · refine G_aload_n (x := a0) (pc := 80) dX11_reading_80 rfl ?_
      refine G_getR (j := 10) (pc := 81) dX11_reading_81 rfl z_CLX11 (by decide) z_wX11_86 (by decide) (fun x16 => ?_)
      refine G_iload_n (x := a1) (pc := 84) dX11_reading_84 rfl ?_
      refine G_iload_n (x := a2) (pc := 85) dX11_reading_85 rfl ?_
      refine G_iload_n (x := a3) (pc := 86) dX11_reading_86 rfl ?_
      refine G_callVI (as := [vI a1, vI a2, vI a3]) (st := []) (c := 3) (bc2 := 0) (bs2 := 0) (pc := 87) dX11_reading_87 z_mX3_letterCode z_vX3_letterCode z_wX11_280 (gX3_letterCode hst fu s x16 a1 a2 a3) rfl rfl (by decide) rfl rfl ⟨by decide, by decide, by decide, by decide, Nat.le_of_ble_eq_true rfl⟩ rfl (fun x18 s17 => ?_)
      refine G_fg (lv2 := [vU, vU, vU, vU, vU, vU]) ⟨Or.inl rfl, Or.inl rfl, Or.inl rfl, Or.inl rfl, Or.inl rfl, Or.inl rfl, trivial⟩ ?_
      exact gX11_reading_J90 hst fu s17 x18
    · refine G_iconst (pc := 76) dX11_reading_76 ?_
      refine G_goto (tgt := 90) (pc := 77) dX11_reading_77 ?_
      refine G_fg (lv2 := [vU, vU, vU, vU, vU, vU]) ⟨Or.inl rfl, Or.inl rfl, Or.inl rfl, Or.inl rfl, Or.inl rfl, Or.inl rfl, trivial⟩ ?_
      exact gX11_reading_J90 hst fu s (-1)
def fX11_reading (fu : Nat) (s : z_M) (a0 : Int) (a1 : Int) (a2 : Int) (a3 : Int) (a4 : Int) : z_O := if z_ob a0 11 then z_bN (fX11_refresh fu s a0) (fun s1 => if z_ob a0 11 then z_let (z_gr a0 10) (fun x2 => if z_ob x2 3 then z_let (z_gr x2 5) (fun x3 => if z_ob x3 0 then z_let (s1 x3 9) (fun x4 => if z_ob a0 11 then z_bN (fX11_needExisting fu s1 a0 a1 x4) (fun s5 => if z_ob a0 11 then z_bN (fX11_needWithin fu s5 a0 a2 0 1) (fun s6 => if z_ob a0 11 then z_bN (fX11_needWithin fu s6 a0 a3 0 2147483647) (fun s7 => if z_ob a0 11 then z_bN (fX11_needWithin fu s7 a0 a4 0 1) (fun s8 => if z_ob a0 11 then z_let (z_gr a0 10) (fun x9 => if z_ob x9 3 then z_let (z_gr x9 5) (fun x10 => if z_ob x10 0 then z_bI (fX0_letters fu s8 x10 a1 a2) (fun x12 s11 => if (a3 : Int) < x12 then (fX11_reading_J64 fu s11 a0 a1 a2 a3 a4 0) else (fX11_reading_J64 fu s11 a0 a1 a2 a3 a4 1)) else none) else none) else none) else none) else none) else none) else none) else none) else none) else none) else none
theorem gX11_reading {l : Launch} {K : z_K} (hst : l.stackTraces = false) (fu : Nat) (s : z_M) (a0 : Int) (a1 : Int) (a2 : Int) (a3 : Int) (a4 : Int) : z_D l K mX11_reading 7 172 4 24 [vR a0, vI a1, vI a2, vI a3, vI a4] s (fX11_reading fu s a0 a1 a2 a3 a4) := by
  refine z_D_of (lv := [vR a0, vI a1, vI a2, vI a3, vI a4, vU]) hst z_mX11_reading rfl ?_ (Nat.le_of_ble_eq_true rfl) rfl
  unfold fX11_reading
  refine G_aload_n (x := a0) (pc := 0) dX11_reading_0 rfl ?_
  refine G_callVN (as := []) (st := []) (c := 11) (bc2 := 4) (bs2 := 24) (pc := 1) dX11_reading_1 z_mX11_refresh z_vX11_refresh z_wX11_124 (gX11_refresh hst fu s a0) rfl rfl (by decide) rfl rfl ⟨by decide, by decide, by decide, by decide, Nat.le_of_ble_eq_true rfl⟩ rfl (fun s1 => ?_)
  refine G_aload_n (x := a0) (pc := 4) dX11_reading_4 rfl ?_
  refine G_iload_n (x := a1) (pc := 5) dX11_reading_5 rfl ?_
  refine G_aload_n (x := a0) (pc := 6) dX11_reading_6 rfl ?_
  refine G_getR (j := 10) (pc := 7) dX11_reading_7 rfl z_CLX11 (by decide) z_wX11_86 (by decide) (fun x2 => ?_)
  refine G_getR (j := 5) (pc := 10) dX11_reading_10 rfl z_CLX3 (by decide) z_wX11_247 (by decide) (fun x3 => ?_)
  refine G_getI (j := 9) (pc := 13) dX11_reading_13 rfl z_CLX0 (by decide) z_wX11_251 (by decide) (fun x4 => ?_)
  refine G_callVN (as := [vI a1, vI x4]) (st := []) (c := 11) (bc2 := 3) (bs2 := 18) (pc := 16) dX11_reading_16 z_mX11_needExisting z_vX11_needExisting z_wX11_153 (gX11_needExisting hst fu s1 a0 a1 x4) rfl rfl (by decide) rfl rfl ⟨by decide, by decide, by decide, by decide, Nat.le_of_ble_eq_true rfl⟩ rfl (fun s5 => ?_)
  refine G_aload_n (x := a0) (pc := 19) dX11_reading_19 rfl ?_
  refine G_iload_n (x := a2) (pc := 20) dX11_reading_20 rfl ?_
  refine G_iconst (pc := 21) dX11_reading_21 ?_
  refine G_iconst (pc := 22) dX11_reading_22 ?_
  refine G_callVN (as := [vI a2, vI 0, vI 1]) (st := []) (c := 11) (bc2 := 2) (bs2 := 12) (pc := 23) dX11_reading_23 z_mX11_needWithin z_vX11_needWithin z_wX11_113 (gX11_needWithin hst fu s5 a0 a2 0 1) rfl rfl (by decide) rfl rfl ⟨by decide, by decide, by decide, by decide, Nat.le_of_ble_eq_true rfl⟩ rfl (fun s6 => ?_)
  refine G_aload_n (x := a0) (pc := 26) dX11_reading_26 rfl ?_
  refine G_iload_n (x := a3) (pc := 27) dX11_reading_27 rfl ?_
  refine G_iconst (pc := 28) dX11_reading_28 ?_
  refine G_ldcw (pc := 29) dX11_reading_29 z_wX11_276 ?_
  refine G_callVN (as := [vI a3, vI 0, vI 2147483647]) (st := []) (c := 11) (bc2 := 1) (bs2 := 6) (pc := 32) dX11_reading_32 z_mX11_needWithin z_vX11_needWithin z_wX11_113 (gX11_needWithin hst fu s6 a0 a3 0 2147483647) rfl rfl (by decide) rfl rfl ⟨by decide, by decide, by decide, by decide, Nat.le_of_ble_eq_true rfl⟩ rfl (fun s7 => ?_)
  refine G_aload_n (x := a0) (pc := 35) dX11_reading_35 rfl ?_
  refine G_iload (x := a4) (pc := 36) dX11_reading_36 rfl ?_
  refine G_iconst (pc := 38) dX11_reading_38 ?_
  refine G_iconst (pc := 39) dX11_reading_39 ?_
  refine G_callVN (as := [vI a4, vI 0, vI 1]) (st := []) (c := 11) (bc2 := 0) (bs2 := 0) (pc := 40) dX11_reading_40 z_mX11_needWithin z_vX11_needWithin z_wX11_113 (gX11_needWithin hst fu s7 a0 a4 0 1) rfl rfl (by decide) rfl rfl ⟨by decide, by decide, by decide, by decide, Nat.le_of_ble_eq_true rfl⟩ rfl (fun s8 => ?_)
  refine G_iload_n (x := a3) (pc := 43) dX11_reading_43 rfl ?_
  refine G_aload_n (x := a0) (pc := 44) dX11_reading_44 rfl ?_
  refine G_getR (j := 10) (pc := 45) dX11_reading_45 rfl z_CLX11 (by decide) z_wX11_86 (by decide) (fun x9 => ?_)
  refine G_getR (j := 5) (pc := 48) dX11_reading_48 rfl z_CLX3 (by decide) z_wX11_247 (by decide) (fun x10 => ?_)
  refine G_iload_n (x := a1) (pc := 51) dX11_reading_51 rfl ?_
  refine G_iload_n (x := a2) (pc := 52) dX11_reading_52 rfl ?_
  refine G_callVI (as := [vI a1, vI a2]) (st := [vI a3]) (c := 0) (bc2 := 0) (bs2 := 0) (pc := 53) dX11_reading_53 z_mX0_letters z_vX0_letters z_wX11_277 (gX0_letters hst fu s8 x10 a1 a2) rfl rfl (by decide) rfl rfl ⟨by decide, by decide, by decide, by decide, Nat.le_of_ble_eq_true rfl⟩ rfl (fun x12 s11 => ?_)
  refine G_icmp_lt (tgt := 63) (pc := 56) dX11_reading_56 ?_ ?_
  · refine G_iconst (pc := 63) dX11_reading_63 ?_
    exact gX11_reading_J64 hst fu s11 a0 a1 a2 a3 a4 0
  · refine G_iconst (pc := 59) dX11_reading_59 ?_
    refine G_goto (tgt := 64) (pc := 60) dX11_reading_60 ?_
    exact gX11_reading_J64 hst fu s11 a0 a1 a2 a3 a4 1
def fX11_run_J111 (fu : Nat) (s : z_M) (a0 : Int) (a1 : Int) (a2 : Int) (a3 : Int) (a4 : Int) (a5 : Int) (r : z_M → Int → Int → Int → z_O) (k : z_M → z_O) : z_O := z_let (z_w (a5 + 1)) (fun x12 => r s a3 a4 x12)
theorem gX11_run_J111 {l : Launch} {K : z_K} (hst : l.stackTraces = false) (fu : Nat) (s : z_M) (a0 : Int) (a1 : Int) (a2 : Int) (a3 : Int) (a4 : Int) (a5 : Int) (r : z_M → Int → Int → Int → z_O) (k : z_M → z_O) (hr : ∀ (s : z_M) (a3 : Int) (a4 : Int) (a5 : Int), G l K mX11_run 7 172 0 0 19 [vR a0, vI a1, vI a2, vI a3, vI a4, vI a5, vU] [] s (r s a3 a4 a5)) (hk : ∀ (s : z_M), G l K mX11_run 7 172 0 0 117 [vU, vU, vU, vU, vU, vU, vU] [] s (k s)) : G l K mX11_run 7 172 0 0 111 [vR a0, vI a1, vI a2, vI a3, vI a4, vI a5, vU] [] s (fX11_run_J111 fu s a0 a1 a2 a3 a4 a5 r k) := by
  unfold fX11_run_J111
  refine G_iinc (x := a5) (g := fun x12 => [vR a0, vI a1, vI a2, vI a3, vI a4, vI x12, vU]) (pc := 111) dX11_run_111 rfl (fun _ => rfl) (fun x12 => ?_)
  refine G_goto (tgt := 19) (pc := 114) dX11_run_114 ?_
  exact hr s a3 a4 x12
def fX11_run_J103 (fu : Nat) (s : z_M) (t0 : Int) (r : z_M → Int → Int → Int → z_O) (k : z_M → z_O) : z_O := some (vI t0, s)
theorem gX11_run_J103 {l : Launch} {K : z_K} (hst : l.stackTraces = false) (fu : Nat) (s : z_M) (a0 : Int) (a1 : Int) (a2 : Int) (t0 : Int) (r : z_M → Int → Int → Int → z_O) (k : z_M → z_O) (hr : ∀ (s : z_M) (a3 : Int) (a4 : Int) (a5 : Int), G l K mX11_run 7 172 0 0 19 [vR a0, vI a1, vI a2, vI a3, vI a4, vI a5, vU] [] s (r s a3 a4 a5)) (hk : ∀ (s : z_M), G l K mX11_run 7 172 0 0 117 [vU, vU, vU, vU, vU, vU, vU] [] s (k s)) : G l K mX11_run 7 172 0 0 103 [vU, vU, vU, vU, vU, vU, vU] [vI t0] s (fX11_run_J103 fu s t0 r k) := by
  unfold fX11_run_J103
  exact G_iret (pc := 103) dX11_run_103
def fX11_run_J74 (fu : Nat) (s : z_M) (a0 : Int) (a1 : Int) (a2 : Int) (a3 : Int) (a4 : Int) (a5 : Int) (a6 : Int) (r : z_M → Int → Int → Int → z_O) (k : z_M → z_O) : z_O := if (a3 : Int) ≠ a1 then (z_let (z_w (a3 + 1)) (fun x11 => fX11_run_J111 fu s a0 a1 a2 x11 a5 a5 (fun w v3 v4 v5 => r w v3 v4 v5) k)) else (if (a2 : Int) ≠ 0 then (if (a2 : Int) ≠ 1 then (fX11_run_J103 fu s a6 (fun w v3 v4 v5 => r w v3 v4 v5) k) else (z_let (z_w (a5 - a4)) (fun x13 => fX11_run_J103 fu s x13 (fun w v3 v4 v5 => r w v3 v4 v5) k))) else (fX11_run_J103 fu s a4 (fun w v3 v4 v5 => r w v3 v4 v5) k))
theorem gX11_run_J74 {l : Launch} {K : z_K} (hst : l.stackTraces = false) (fu : Nat) (s : z_M) (a0 : Int) (a1 : Int) (a2 : Int) (a3 : Int) (a4 : Int) (a5 : Int) (a6 : Int) (r : z_M → Int → Int → Int → z_O) (k : z_M → z_O) (hr : ∀ (s : z_M) (a3 : Int) (a4 : Int) (a5 : Int), G l K mX11_run 7 172 0 0 19 [vR a0, vI a1, vI a2, vI a3, vI a4, vI a5, vU] [] s (r s a3 a4 a5)) (hk : ∀ (s : z_M), G l K mX11_run 7 172 0 0 117 [vU, vU, vU, vU, vU, vU, vU] [] s (k s)) : G l K mX11_run 7 172 0 0 74 [vR a0, vI a1, vI a2, vI a3, vI a4, vI a5, vI a6] [] s (fX11_run_J74 fu s a0 a1 a2 a3 a4 a5 a6 r k) := by
  unfold fX11_run_J74
  refine G_iload_n (x := a3) (pc := 74) dX11_run_74 rfl ?_
  refine G_iload_n (x := a1) (pc := 75) dX11_run_75 rfl ?_
  refine G_icmp_ne (tgt := 104) (pc := 76) dX11_run_76 ?_ ?_
  · refine G_iinc (x := a3) (g := fun x11 => [vR a0, vI a1, vI a2, vI x11, vI a4, vI a5, vI a6]) (pc := 104) dX11_run_104 rfl (fun _ => rfl) (fun x11 => ?_)
    refine G_iload (x := a5) (pc := 107) dX11_run_107 rfl ?_
    refine G_istore (lv' := [vR a0, vI a1, vI a2, vI x11, vI a5, vI a5, vI a6]) (pc := 109) dX11_run_109 rfl ?_
    refine G_fg (lv2 := [vR a0, vI a1, vI a2, vI x11, vI a5, vI a5, vU]) ⟨Or.inr rfl, Or.inr rfl, Or.inr rfl, Or.inr rfl, Or.inr rfl, Or.inr rfl, Or.inl rfl, trivial⟩ ?_
    exact gX11_run_J111 hst fu s a0 a1 a2 x11 a5 a5 _ _ (fun w v3 v4 v5 => hr w v3 v4 v5) hk
  · refine G_iload_n (x := a2) (pc := 79) dX11_run_79 rfl ?_
    refine G_if_ne (tgt := 88) (pc := 80) dX11_run_80 ?_ ?_
    · refine G_iload_n (x := a2) (pc := 88) dX11_run_88 rfl ?_
      refine G_iconst (pc := 89) dX11_run_89 ?_
      refine G_icmp_ne (tgt := 101) (pc := 90) dX11_run_90 ?_ ?_
      · refine G_iload (x := a6) (pc := 101) dX11_run_101 rfl ?_
        refine G_fg (lv2 := [vU, vU, vU, vU, vU, vU, vU]) ⟨Or.inl rfl, Or.inl rfl, Or.inl rfl, Or.inl rfl, Or.inl rfl, Or.inl rfl, Or.inl rfl, trivial⟩ ?_
        exact gX11_run_J103 hst fu s a0 a1 a2 a6 _ _ (fun w v3 v4 v5 => hr w v3 v4 v5) hk
      · refine G_iload (x := a5) (pc := 93) dX11_run_93 rfl ?_
        refine G_iload (x := a4) (pc := 95) dX11_run_95 rfl ?_
        refine G_isub (pc := 97) dX11_run_97 (fun x13 => ?_)
        refine G_goto (tgt := 103) (pc := 98) dX11_run_98 ?_
        refine G_fg (lv2 := [vU, vU, vU, vU, vU, vU, vU]) ⟨Or.inl rfl, Or.inl rfl, Or.inl rfl, Or.inl rfl, Or.inl rfl, Or.inl rfl, Or.inl rfl, trivial⟩ ?_
        exact gX11_run_J103 hst fu s a0 a1 a2 x13 _ _ (fun w v3 v4 v5 => hr w v3 v4 v5) hk
    · refine G_iload (x := a4) (pc := 83) dX11_run_83 rfl ?_
      refine G_goto (tgt := 103) (pc := 85) dX11_run_85 ?_
      refine G_fg (lv2 := [vU, vU, vU, vU, vU, vU, vU]) ⟨Or.inl rfl, Or.inl rfl, Or.inl rfl, Or.inl rfl, Or.inl rfl, Or.inl rfl, Or.inl rfl, trivial⟩ ?_
      exact gX11_run_J103 hst fu s a0 a1 a2 a4 _ _ (fun w v3 v4 v5 => hr w v3 v4 v5) hk
def fX11_run_L19 (fu : Nat) (a0 : Int) (a1 : Int) (a2 : Int) : Nat → z_M → Int → Int → Int → (z_M → z_O) → z_O
  | 0, _, _, _, _, _ => none
  | F + 1, s, a3, a4, a5, k => if z_ob a0 11 then z_let (z_gr a0 2) (fun x3 => if z_ob x3 9 then z_let (s x3 6) (fun x4 => if (x4 : Int) < a5 then (k s) else (if z_ob a0 11 then z_let (z_gr a0 6) (fun x5 => if z_ob x5 10 then z_let (z_gr x5 15) (fun x6 => if z_ob x6 7 then z_bI (fX7_get fu s x6 a4) (fun x8 s7 => if z_ob a0 11 then z_let (z_gr a0 2) (fun x9 => if z_ob x9 9 then z_let (s7 x9 6) (fun x10 => if (a5 : Int) = x10 then (fX11_run_J74 fu s7 a0 a1 a2 a3 a4 a5 x8 (fun w v3 v4 v5 => fX11_run_L19 fu a0 a1 a2 F w v3 v4 v5 k) k) else (if z_ob a0 11 then z_let (z_gr a0 6) (fun x14 => if z_ob x14 10 then z_let (z_gr x14 15) (fun x15 => if z_ob x15 7 then z_bI (fX7_get fu s7 x15 a5) (fun x17 s16 => if (x17 : Int) = x8 then (fX11_run_J111 fu s16 a0 a1 a2 a3 a4 a5 (fun w v3 v4 v5 => fX11_run_L19 fu a0 a1 a2 F w v3 v4 v5 k) k) else (fX11_run_J74 fu s16 a0 a1 a2 a3 a4 a5 x8 (fun w v3 v4 v5 => fX11_run_L19 fu a0 a1 a2 F w v3 v4 v5 k) k)) else none) else none) else none)) else none) else none) else none) else none) else none)) else none) else none
theorem gX11_run_L19 {l : Launch} {K : z_K} (hst : l.stackTraces = false) (fu : Nat) (a0 : Int) (a1 : Int) (a2 : Int) (k : z_M → z_O) (hk : ∀ (s : z_M), G l K mX11_run 7 172 0 0 117 [vU, vU, vU, vU, vU, vU, vU] [] s (k s)) : ∀ (F : Nat) (s : z_M) (a3 : Int) (a4 : Int) (a5 : Int), G l K mX11_run 7 172 0 0 19 [vR a0, vI a1, vI a2, vI a3, vI a4, vI a5, vU] [] s (fX11_run_L19 fu a0 a1 a2 F s a3 a4 a5 k) := by
  intro F
  induction F with
  | zero => exact fun s a3 a4 a5 h => absurd rfl h
  | succ F ih =>
    intro s a3 a4 a5
    rw [fX11_run_L19]
    refine G_iload (x := a5) (pc := 19) dX11_run_19 rfl ?_
    refine G_aload_n (x := a0) (pc := 21) dX11_run_21 rfl ?_
    refine G_getR (j := 2) (pc := 22) dX11_run_22 rfl z_CLX11 (by decide) z_wX11_28 (by decide) (fun x3 => ?_)
    refine G_getI (j := 6) (pc := 25) dX11_run_25 rfl z_CLX9 (by decide) z_wX11_172 (by decide) (fun x4 => ?_)
    refine G_icmp_gt (tgt := 117) (pc := 28) dX11_run_28 ?_ ?_
    · refine G_fg (lv2 := [vU, vU, vU, vU, vU, vU, vU]) ⟨Or.inl rfl, Or.inl rfl, Or.inl rfl, Or.inl rfl, Or.inl rfl, Or.inl rfl, Or.inl rfl, trivial⟩ ?_
      exact hk s
    · refine G_aload_n (x := a0) (pc := 31) dX11_run_31 rfl ?_
      refine G_getR (j := 6) (pc := 32) dX11_run_32 rfl z_CLX11 (by decide) z_wX11_56 (by decide) (fun x5 => ?_)
      refine G_getR (j := 15) (pc := 35) dX11_run_35 rfl z_CLX10 (by decide) z_wX11_222 (by decide) (fun x6 => ?_)
      refine G_iload (x := a4) (pc := 38) dX11_run_38 rfl ?_
      refine G_callVI (as := [vI a4]) (st := []) (c := 7) (bc2 := 0) (bs2 := 0) (pc := 40) dX11_run_40 z_mX7_get z_vX7_get z_wX11_143 (gX7_get hst fu s x6 a4) rfl rfl (by decide) rfl rfl ⟨by decide, by decide, by decide, by decide, Nat.le_of_ble_eq_true rfl⟩ rfl (fun x8 s7 => ?_)
      refine G_istore (lv' := [vR a0, vI a1, vI a2, vI a3, vI a4, vI a5, vI x8]) (pc := 43) dX11_run_43 rfl ?_
      refine G_iload (x := a5) (pc := 45) dX11_run_45 rfl ?_
      refine G_aload_n (x := a0) (pc := 47) dX11_run_47 rfl ?_
      refine G_getR (j := 2) (pc := 48) dX11_run_48 rfl z_CLX11 (by decide) z_wX11_28 (by decide) (fun x9 => ?_)
      refine G_getI (j := 6) (pc := 51) dX11_run_51 rfl z_CLX9 (by decide) z_wX11_172 (by decide) (fun x10 => ?_)
      refine G_icmp_eq (tgt := 74) (pc := 54) dX11_run_54 ?_ ?_
      · exact gX11_run_J74 hst fu s7 a0 a1 a2 a3 a4 a5 x8 _ _ (fun w v3 v4 v5 => ih w v3 v4 v5) hk
      · refine G_aload_n (x := a0) (pc := 57) dX11_run_57 rfl ?_
        refine G_getR (j := 6) (pc := 58) dX11_run_58 rfl z_CLX11 (by decide) z_wX11_56 (by decide) (fun x14 => ?_)
        refine G_getR (j := 15) (pc := 61) dX11_run_61 rfl z_CLX10 (by decide) z_wX11_222 (by decide) (fun x15 => ?_)
        refine G_iload (x := a5) (pc := 64) dX11_run_64 rfl ?_
        refine G_callVI (as := [vI a5]) (st := []) (c := 7) (bc2 := 0) (bs2 := 0) (pc := 66) dX11_run_66 z_mX7_get z_vX7_get z_wX11_143 (gX7_get hst fu s7 x15 a5) rfl rfl (by decide) rfl rfl ⟨by decide, by decide, by decide, by decide, Nat.le_of_ble_eq_true rfl⟩ rfl (fun x17 s16 => ?_)
        refine G_iload (x := x8) (pc := 69) dX11_run_69 rfl ?_
        refine G_icmp_eq (tgt := 111) (pc := 71) dX11_run_71 ?_ ?_
        · refine G_fg (lv2 := [vR a0, vI a1, vI a2, vI a3, vI a4, vI a5, vU]) ⟨Or.inr rfl, Or.inr rfl, Or.inr rfl, Or.inr rfl, Or.inr rfl, Or.inr rfl, Or.inl rfl, trivial⟩ ?_
          exact gX11_run_J111 hst fu s16 a0 a1 a2 a3 a4 a5 _ _ (fun w v3 v4 v5 => ih w v3 v4 v5) hk
        · exact gX11_run_J74 hst fu s16 a0 a1 a2 a3 a4 a5 x8 _ _ (fun w v3 v4 v5 => ih w v3 v4 v5) hk
def fX11_run (fu : Nat) (s : z_M) (a0 : Int) (a1 : Int) (a2 : Int) : z_O := if z_ob a0 11 then z_bN (fX11_needWithin fu s a0 a2 0 2) (fun s1 => if z_ob a0 11 then z_bN (fX11_refresh fu s1 a0) (fun s2 => fX11_run_L19 fu a0 a1 a2 fu s2 0 0 1 (fun s18 => some (vI (-1), s18))) else none) else none
theorem gX11_run {l : Launch} {K : z_K} (hst : l.stackTraces = false) (fu : Nat) (s : z_M) (a0 : Int) (a1 : Int) (a2 : Int) : z_D l K mX11_run 7 172 1 6 [vR a0, vI a1, vI a2] s (fX11_run fu s a0 a1 a2) := by
  refine z_D_of (lv := [vR a0, vI a1, vI a2, vU, vU, vU, vU]) hst z_mX11_run rfl ?_ (Nat.le_of_ble_eq_true rfl) rfl
  unfold fX11_run
  refine G_aload_n (x := a0) (pc := 0) dX11_run_0 rfl ?_
  refine G_iload_n (x := a2) (pc := 1) dX11_run_1 rfl ?_
  refine G_iconst (pc := 2) dX11_run_2 ?_
  refine G_iconst (pc := 3) dX11_run_3 ?_
  refine G_callVN (as := [vI a2, vI 0, vI 2]) (st := []) (c := 11) (bc2 := 0) (bs2 := 0) (pc := 4) dX11_run_4 z_mX11_needWithin z_vX11_needWithin z_wX11_113 (gX11_needWithin hst fu s a0 a2 0 2) rfl rfl (by decide) rfl rfl ⟨by decide, by decide, by decide, by decide, Nat.le_of_ble_eq_true rfl⟩ rfl (fun s1 => ?_)
  refine G_aload_n (x := a0) (pc := 7) dX11_run_7 rfl ?_
  refine G_callVN (as := []) (st := []) (c := 11) (bc2 := 0) (bs2 := 0) (pc := 8) dX11_run_8 z_mX11_refresh z_vX11_refresh z_wX11_124 (gX11_refresh hst fu s1 a0) rfl rfl (by decide) rfl rfl ⟨by decide, by decide, by decide, by decide, Nat.le_of_ble_eq_true rfl⟩ rfl (fun s2 => ?_)
  refine G_iconst (pc := 11) dX11_run_11 ?_
  refine G_istore_n (lv' := [vR a0, vI a1, vI a2, vI 0, vU, vU, vU]) (pc := 12) dX11_run_12 rfl ?_
  refine G_iconst (pc := 13) dX11_run_13 ?_
  refine G_istore (lv' := [vR a0, vI a1, vI a2, vI 0, vI 0, vU, vU]) (pc := 14) dX11_run_14 rfl ?_
  refine G_iconst (pc := 16) dX11_run_16 ?_
  refine G_istore (lv' := [vR a0, vI a1, vI a2, vI 0, vI 0, vI 1, vU]) (pc := 17) dX11_run_17 rfl ?_
  refine gX11_run_L19 hst fu a0 a1 a2 _ (fun s18 => ?_) fu s2 0 0 1
  refine G_iconst (pc := 117) dX11_run_117 ?_
  exact G_iret (pc := 118) dX11_run_118
def fX3_standingAt_J136 (fu : Nat) (s : z_M) (a0 : Int) (a2 : Int) (a3 : Int) (a4 : Int) (a5 : Int) (r : z_M → Int → z_O) (k : z_M → z_O) : z_O := z_let (z_w (a5 + 1)) (fun x33 => r s x33)
theorem gX3_standingAt_J136 {l : Launch} {K : z_K} (hst : l.stackTraces = false) (fu : Nat) (s : z_M) (a0 : Int) (a2 : Int) (a3 : Int) (a4 : Int) (a5 : Int) (r : z_M → Int → z_O) (k : z_M → z_O) (hr : ∀ (s : z_M) (a5 : Int), G l K mX3_standingAt 2 43 0 0 90 [vR a0, vU, vI a2, vI a3, vI a4, vI a5, vU] [] s (r s a5)) (hk : ∀ (s : z_M), G l K mX3_standingAt 2 43 0 0 142 [vR a0, vU, vI a2, vI a3, vU, vU, vU] [] s (k s)) : G l K mX3_standingAt 2 43 0 0 136 [vR a0, vU, vI a2, vI a3, vI a4, vI a5, vU] [] s (fX3_standingAt_J136 fu s a0 a2 a3 a4 a5 r k) := by
  unfold fX3_standingAt_J136
  refine G_iinc (x := a5) (g := fun x33 => [vR a0, vU, vI a2, vI a3, vI a4, vI x33, vU]) (pc := 136) dX3_standingAt_136 rfl (fun _ => rfl) (fun x33 => ?_)
  refine G_goto (tgt := 90) (pc := 139) dX3_standingAt_139 ?_
  exact hr s x33
def fX3_standingAt_L90 (fu : Nat) (a0 : Int) (a2 : Int) (a3 : Int) (a4 : Int) : Nat → z_M → Int → (z_M → z_O) → z_O
  | 0, _, _, _ => none
  | F + 1, s, a5, k => if (a4 : Int) ≤ a5 then (k s) else (if z_ob a0 3 then z_let (z_gr a0 10) (fun x30 => if z_ob x30 7 then z_bI (fX7_get fu s x30 a5) (fun x32 s31 => if (a2 : Int) < x32 then (fX3_standingAt_J136 fu s31 a0 a2 a3 a4 a5 (fun w v5 => fX3_standingAt_L90 fu a0 a2 a3 a4 F w v5 k) k) else (if z_ob a0 3 then z_let (z_gr a0 1) (fun x34 => if z_ob x34 10 then z_let (z_gr x34 14) (fun x35 => if z_ob x35 7 then z_bI (fX7_get fu s31 x35 a5) (fun x37 s36 => z_let (z_w (x32 + x37)) (fun x38 => if (x38 : Int) ≤ a2 then (fX3_standingAt_J136 fu s36 a0 a2 a3 a4 a5 (fun w v5 => fX3_standingAt_L90 fu a0 a2 a3 a4 F w v5 k) k) else (some (vI a5, s36)))) else none) else none) else none)) else none) else none)
theorem gX3_standingAt_L90 {l : Launch} {K : z_K} (hst : l.stackTraces = false) (fu : Nat) (a0 : Int) (a2 : Int) (a3 : Int) (a4 : Int) (k : z_M → z_O) (hk : ∀ (s : z_M), G l K mX3_standingAt 2 43 0 0 142 [vR a0, vU, vI a2, vI a3, vU, vU, vU] [] s (k s)) : ∀ (F : Nat) (s : z_M) (a5 : Int), G l K mX3_standingAt 2 43 0 0 90 [vR a0, vU, vI a2, vI a3, vI a4, vI a5, vU] [] s (fX3_standingAt_L90 fu a0 a2 a3 a4 F s a5 k) := by
  intro F
  induction F with
  | zero => exact fun s a5 h => absurd rfl h
  | succ F ih =>
    intro s a5
    rw [fX3_standingAt_L90]
    refine G_iload (x := a5) (pc := 90) dX3_standingAt_90 rfl ?_
    refine G_iload (x := a4) (pc := 92) dX3_standingAt_92 rfl ?_
    refine G_icmp_ge (tgt := 142) (pc := 94) dX3_standingAt_94 ?_ ?_
    · refine G_fg (lv2 := [vR a0, vU, vI a2, vI a3, vU, vU, vU]) ⟨Or.inr rfl, Or.inl rfl, Or.inr rfl, Or.inr rfl, Or.inl rfl, Or.inl rfl, Or.inl rfl, trivial⟩ ?_
      exact hk s
    · refine G_aload_n (x := a0) (pc := 97) dX3_standingAt_97 rfl ?_
      refine G_getR (j := 10) (pc := 98) dX3_standingAt_98 rfl z_CLX3 (by decide) z_wX3_29 (by decide) (fun x30 => ?_)
      refine G_iload (x := a5) (pc := 101) dX3_standingAt_101 rfl ?_
      refine G_callVI (as := [vI a5]) (st := []) (c := 7) (bc2 := 0) (bs2 := 0) (pc := 103) dX3_standingAt_103 z_mX7_get z_vX7_get z_wX3_98 (gX7_get hst fu s x30 a5) rfl rfl (by decide) rfl rfl ⟨by decide, by decide, by decide, by decide, Nat.le_of_ble_eq_true rfl⟩ rfl (fun x32 s31 => ?_)
      refine G_istore (lv' := [vR a0, vU, vI a2, vI a3, vI a4, vI a5, vI x32]) (pc := 106) dX3_standingAt_106 rfl ?_
      refine G_iload_n (x := a2) (pc := 108) dX3_standingAt_108 rfl ?_
      refine G_iload (x := x32) (pc := 109) dX3_standingAt_109 rfl ?_
      refine G_icmp_lt (tgt := 136) (pc := 111) dX3_standingAt_111 ?_ ?_
      · refine G_fg (lv2 := [vR a0, vU, vI a2, vI a3, vI a4, vI a5, vU]) ⟨Or.inr rfl, Or.inl rfl, Or.inr rfl, Or.inr rfl, Or.inr rfl, Or.inr rfl, Or.inl rfl, trivial⟩ ?_
        exact gX3_standingAt_J136 hst fu s31 a0 a2 a3 a4 a5 _ _ (fun w v5 => ih w v5) hk
      · refine G_iload_n (x := a2) (pc := 114) dX3_standingAt_114 rfl ?_
        refine G_iload (x := x32) (pc := 115) dX3_standingAt_115 rfl ?_
        refine G_aload_n (x := a0) (pc := 117) dX3_standingAt_117 rfl ?_
        refine G_getR (j := 1) (pc := 118) dX3_standingAt_118 rfl z_CLX3 (by decide) z_wX3_51 (by decide) (fun x34 => ?_)
        refine G_getR (j := 14) (pc := 121) dX3_standingAt_121 rfl z_CLX10 (by decide) z_wX3_174 (by decide) (fun x35 => ?_)
        refine G_iload (x := a5) (pc := 124) dX3_standingAt_124 rfl ?_
        refine G_callVI (as := [vI a5]) (st := [vI x32, vI a2]) (c := 7) (bc2 := 0) (bs2 := 0) (pc := 126) dX3_standingAt_126 z_mX7_get z_vX7_get z_wX3_98 (gX7_get hst fu s31 x35 a5) rfl rfl (by decide) rfl rfl ⟨by decide, by decide, by decide, by decide, Nat.le_of_ble_eq_true rfl⟩ rfl (fun x37 s36 => ?_)
        refine G_iadd (pc := 129) dX3_standingAt_129 (fun x38 => ?_)
        refine G_icmp_ge (tgt := 136) (pc := 130) dX3_standingAt_130 ?_ ?_
        · refine G_fg (lv2 := [vR a0, vU, vI a2, vI a3, vI a4, vI a5, vU]) ⟨Or.inr rfl, Or.inl rfl, Or.inr rfl, Or.inr rfl, Or.inr rfl, Or.inr rfl, Or.inl rfl, trivial⟩ ?_
          exact gX3_standingAt_J136 hst fu s36 a0 a2 a3 a4 a5 _ _ (fun w v5 => ih w v5) hk
        · refine G_iload (x := a5) (pc := 133) dX3_standingAt_133 rfl ?_
          exact G_iret (pc := 135) dX3_standingAt_135
def fX3_standingAt_L41 (fu : Nat) (a0 : Int) (a2 : Int) : Nat → z_M → Int → (z_M → z_O) → z_O
  | 0, _, _, _ => none
  | F + 1, s, a3, k => if z_ob a0 3 then z_let (z_gr a0 2) (fun x15 => if z_ob x15 5 then z_let (s x15 5) (fun x16 => if (x16 : Int) < a3 then (k s) else (if z_ob a0 3 then z_let (z_gr a0 1) (fun x17 => if z_ob x17 10 then z_let (z_gr x17 3) (fun x18 => if z_ob x18 7 then z_bI (fX7_get fu s x18 a3) (fun x20 s19 => if z_ob a0 3 then z_let (z_gr a0 1) (fun x21 => if z_ob x21 10 then z_let (z_gr x21 4) (fun x22 => if z_ob x22 7 then z_bI (fX7_get fu s19 x22 a3) (fun x24 s23 => z_let (z_w (x20 + x24)) (fun x25 => if z_ob a0 3 then z_let (z_gr a0 1) (fun x26 => if z_ob x26 10 then z_let (z_gr x26 3) (fun x27 => if z_ob x27 7 then z_bI (fX7_get fu s23 x27 a3) (fun x29 s28 => fX3_standingAt_L90 fu a0 a2 a3 x25 fu s28 x29 (fun s39 => z_let (z_w (a3 + 1)) (fun x40 => fX3_standingAt_L41 fu a0 a2 F s39 x40 k))) else none) else none) else none)) else none) else none) else none) else none) else none) else none)) else none) else none
theorem gX3_standingAt_L41 {l : Launch} {K : z_K} (hst : l.stackTraces = false) (fu : Nat) (a0 : Int) (a2 : Int) (k : z_M → z_O) (hk : ∀ (s : z_M), G l K mX3_standingAt 2 43 0 0 148 [vU, vU, vU, vU, vU, vU, vU] [] s (k s)) : ∀ (F : Nat) (s : z_M) (a3 : Int), G l K mX3_standingAt 2 43 0 0 41 [vR a0, vU, vI a2, vI a3, vU, vU, vU] [] s (fX3_standingAt_L41 fu a0 a2 F s a3 k) := by
  intro F
  induction F with
  | zero => exact fun s a3 h => absurd rfl h
  | succ F ih =>
    intro s a3
    rw [fX3_standingAt_L41]
    refine G_iload_n (x := a3) (pc := 41) dX3_standingAt_41 rfl ?_
    refine G_aload_n (x := a0) (pc := 42) dX3_standingAt_42 rfl ?_
    refine G_getR (j := 2) (pc := 43) dX3_standingAt_43 rfl z_CLX3 (by decide) z_wX3_55 (by decide) (fun x15 => ?_)
    refine G_getI (j := 5) (pc := 46) dX3_standingAt_46 rfl z_CLX5 (by decide) z_wX3_111 (by decide) (fun x16 => ?_)
    refine G_icmp_gt (tgt := 148) (pc := 49) dX3_standingAt_49 ?_ ?_
    · refine G_fg (lv2 := [vU, vU, vU, vU, vU, vU, vU]) ⟨Or.inl rfl, Or.inl rfl, Or.inl rfl, Or.inl rfl, Or.inl rfl, Or.inl rfl, Or.inl rfl, trivial⟩ ?_
      exact hk s
    · refine G_aload_n (x := a0) (pc := 52) dX3_standingAt_52 rfl ?_
      refine G_getR (j := 1) (pc := 53) dX3_standingAt_53 rfl z_CLX3 (by decide) z_wX3_51 (by decide) (fun x17 => ?_)
      refine G_getR (j := 3) (pc := 56) dX3_standingAt_56 rfl z_CLX10 (by decide) z_wX3_170 (by decide) (fun x18 => ?_)
      refine G_iload_n (x := a3) (pc := 59) dX3_standingAt_59 rfl ?_
      refine G_callVI (as := [vI a3]) (st := []) (c := 7) (bc2 := 0) (bs2 := 0) (pc := 60) dX3_standingAt_60 z_mX7_get z_vX7_get z_wX3_98 (gX7_get hst fu s x18 a3) rfl rfl (by decide) rfl rfl ⟨by decide, by decide, by decide, by decide, Nat.le_of_ble_eq_true rfl⟩ rfl (fun x20 s19 => ?_)
      refine G_aload_n (x := a0) (pc := 63) dX3_standingAt_63 rfl ?_
      refine G_getR (j := 1) (pc := 64) dX3_standingAt_64 rfl z_CLX3 (by decide) z_wX3_51 (by decide) (fun x21 => ?_)
      refine G_getR (j := 4) (pc := 67) dX3_standingAt_67 rfl z_CLX10 (by decide) z_wX3_171 (by decide) (fun x22 => ?_)
      refine G_iload_n (x := a3) (pc := 70) dX3_standingAt_70 rfl ?_
      refine G_callVI (as := [vI a3]) (st := [vI x20]) (c := 7) (bc2 := 0) (bs2 := 0) (pc := 71) dX3_standingAt_71 z_mX7_get z_vX7_get z_wX3_98 (gX7_get hst fu s19 x22 a3) rfl rfl (by decide) rfl rfl ⟨by decide, by decide, by decide, by decide, Nat.le_of_ble_eq_true rfl⟩ rfl (fun x24 s23 => ?_)
      refine G_iadd (pc := 74) dX3_standingAt_74 (fun x25 => ?_)
      refine G_istore (lv' := [vR a0, vU, vI a2, vI a3, vI x25, vU, vU]) (pc := 75) dX3_standingAt_75 rfl ?_
      refine G_aload_n (x := a0) (pc := 77) dX3_standingAt_77 rfl ?_
      refine G_getR (j := 1) (pc := 78) dX3_standingAt_78 rfl z_CLX3 (by decide) z_wX3_51 (by decide) (fun x26 => ?_)
      refine G_getR (j := 3) (pc := 81) dX3_standingAt_81 rfl z_CLX10 (by decide) z_wX3_170 (by decide) (fun x27 => ?_)
      refine G_iload_n (x := a3) (pc := 84) dX3_standingAt_84 rfl ?_
      refine G_callVI (as := [vI a3]) (st := []) (c := 7) (bc2 := 0) (bs2 := 0) (pc := 85) dX3_standingAt_85 z_mX7_get z_vX7_get z_wX3_98 (gX7_get hst fu s23 x27 a3) rfl rfl (by decide) rfl rfl ⟨by decide, by decide, by decide, by decide, Nat.le_of_ble_eq_true rfl⟩ rfl (fun x29 s28 => ?_)
      refine G_istore (lv' := [vR a0, vU, vI a2, vI a3, vI x25, vI x29, vU]) (pc := 88) dX3_standingAt_88 rfl ?_
      refine gX3_standingAt_L90 hst fu a0 a2 a3 x25 _ (fun s39 => ?_) fu s28 x29
      refine G_iinc (x := a3) (g := fun x40 => [vR a0, vU, vI a2, vI x40, vU, vU, vU]) (pc := 142) dX3_standingAt_142 rfl (fun _ => rfl) (fun x40 => ?_)
      refine G_goto (tgt := 41) (pc := 145) dX3_standingAt_145 ?_
      exact ih s39 x40
def fX3_standingAt (fu : Nat) (s : z_M) (a0 : Int) (a1 : Int) (a2 : Int) : z_O := if z_ob a0 3 then z_let (z_gr a0 2) (fun x1 => if z_ob a0 3 then z_let (z_gr a0 3) (fun x2 => if z_ob x2 1 then z_let (z_gr x2 5) (fun x3 => if z_ob x3 7 then z_bI (fX7_get fu s x3 a1) (fun x5 s4 => if z_ob a0 3 then z_let (z_gr a0 3) (fun x6 => if z_ob x6 1 then z_let (z_gr x6 5) (fun x7 => z_let (z_w (a1 + 1)) (fun x8 => if z_ob x7 7 then z_bI (fX7_get fu s4 x7 x8) (fun x10 s9 => z_let (z_w (x10 - 1)) (fun x11 => if z_ob x1 5 then z_bN (fX5_trim fu s9 x1 x5 x11) (fun s12 => if z_ob a0 3 then z_let (z_gr a0 2) (fun x13 => if z_ob x13 5 then z_let (s12 x13 4) (fun x14 => fX3_standingAt_L41 fu a0 a2 fu s12 x14 (fun s41 => some (vI (-1), s41))) else none) else none) else none)) else none)) else none) else none) else none) else none) else none) else none
theorem gX3_standingAt {l : Launch} {K : z_K} (hst : l.stackTraces = false) (fu : Nat) (s : z_M) (a0 : Int) (a1 : Int) (a2 : Int) : z_D l K mX3_standingAt 2 43 0 0 [vR a0, vI a1, vI a2] s (fX3_standingAt fu s a0 a1 a2) := by
  refine z_D_of (lv := [vR a0, vI a1, vI a2, vU, vU, vU, vU]) hst z_mX3_standingAt rfl ?_ (Nat.le_of_ble_eq_true rfl) rfl
  unfold fX3_standingAt
  refine G_aload_n (x := a0) (pc := 0) dX3_standingAt_0 rfl ?_
  refine G_getR (j := 2) (pc := 1) dX3_standingAt_1 rfl z_CLX3 (by decide) z_wX3_55 (by decide) (fun x1 => ?_)
  refine G_aload_n (x := a0) (pc := 4) dX3_standingAt_4 rfl ?_
  refine G_getR (j := 3) (pc := 5) dX3_standingAt_5 rfl z_CLX3 (by decide) z_wX3_59 (by decide) (fun x2 => ?_)
  refine G_getR (j := 5) (pc := 8) dX3_standingAt_8 rfl z_CLX1 (by decide) z_wX3_95 (by decide) (fun x3 => ?_)
  refine G_iload_n (x := a1) (pc := 11) dX3_standingAt_11 rfl ?_
  refine G_callVI (as := [vI a1]) (st := [vR x1]) (c := 7) (bc2 := 0) (bs2 := 0) (pc := 12) dX3_standingAt_12 z_mX7_get z_vX7_get z_wX3_98 (gX7_get hst fu s x3 a1) rfl rfl (by decide) rfl rfl ⟨by decide, by decide, by decide, by decide, Nat.le_of_ble_eq_true rfl⟩ rfl (fun x5 s4 => ?_)
  refine G_aload_n (x := a0) (pc := 15) dX3_standingAt_15 rfl ?_
  refine G_getR (j := 3) (pc := 16) dX3_standingAt_16 rfl z_CLX3 (by decide) z_wX3_59 (by decide) (fun x6 => ?_)
  refine G_getR (j := 5) (pc := 19) dX3_standingAt_19 rfl z_CLX1 (by decide) z_wX3_95 (by decide) (fun x7 => ?_)
  refine G_iload_n (x := a1) (pc := 22) dX3_standingAt_22 rfl ?_
  refine G_iconst (pc := 23) dX3_standingAt_23 ?_
  refine G_iadd (pc := 24) dX3_standingAt_24 (fun x8 => ?_)
  refine G_callVI (as := [vI x8]) (st := [vI x5, vR x1]) (c := 7) (bc2 := 0) (bs2 := 0) (pc := 25) dX3_standingAt_25 z_mX7_get z_vX7_get z_wX3_98 (gX7_get hst fu s4 x7 x8) rfl rfl (by decide) rfl rfl ⟨by decide, by decide, by decide, by decide, Nat.le_of_ble_eq_true rfl⟩ rfl (fun x10 s9 => ?_)
  refine G_iconst (pc := 28) dX3_standingAt_28 ?_
  refine G_isub (pc := 29) dX3_standingAt_29 (fun x11 => ?_)
  refine G_callVN (as := [vI x5, vI x11]) (st := []) (c := 5) (bc2 := 0) (bs2 := 0) (pc := 30) dX3_standingAt_30 z_mX5_trim z_vX5_trim z_wX3_108 (gX5_trim hst fu s9 x1 x5 x11) rfl rfl (by decide) rfl rfl ⟨by decide, by decide, by decide, by decide, Nat.le_of_ble_eq_true rfl⟩ rfl (fun s12 => ?_)
  refine G_aload_n (x := a0) (pc := 33) dX3_standingAt_33 rfl ?_
  refine G_getR (j := 2) (pc := 34) dX3_standingAt_34 rfl z_CLX3 (by decide) z_wX3_55 (by decide) (fun x13 => ?_)
  refine G_getI (j := 4) (pc := 37) dX3_standingAt_37 rfl z_CLX5 (by decide) z_wX3_118 (by decide) (fun x14 => ?_)
  refine G_istore_n (lv' := [vR a0, vI a1, vI a2, vI x14, vU, vU, vU]) (pc := 40) dX3_standingAt_40 rfl ?_
  refine G_fg (lv2 := [vR a0, vU, vI a2, vI x14, vU, vU, vU]) ⟨Or.inr rfl, Or.inl rfl, Or.inr rfl, Or.inr rfl, Or.inl rfl, Or.inl rfl, Or.inl rfl, trivial⟩ ?_
  refine gX3_standingAt_L41 hst fu a0 a2 _ (fun s41 => ?_) fu s12 x14
  refine G_iconst (pc := 148) dX3_standingAt_148 ?_
  exact G_iret (pc := 149) dX3_standingAt_149
def fX11_at (fu : Nat) (s : z_M) (a0 : Int) (a1 : Int) (a2 : Int) : z_O := if z_ob a0 11 then z_bN (fX11_refresh fu s a0) (fun s1 => if z_ob a0 11 then z_let (z_gr a0 8) (fun x2 => if z_ob x2 1 then z_let (s1 x2 6) (fun x3 => if z_ob a0 11 then z_bN (fX11_needExisting fu s1 a0 a1 x3) (fun s4 => if z_ob a0 11 then z_let (z_gr a0 10) (fun x5 => if z_ob x5 3 then z_bI (fX3_standingAt fu s4 x5 a1 a2) (fun x7 s6 => some (vI x7, s6)) else none) else none) else none) else none) else none) else none
theorem gX11_at {l : Launch} {K : z_K} (hst : l.stackTraces = false) (fu : Nat) (s : z_M) (a0 : Int) (a1 : Int) (a2 : Int) : z_D l K mX11_at 7 172 1 6 [vR a0, vI a1, vI a2] s (fX11_at fu s a0 a1 a2) := by
  refine z_D_of (lv := [vR a0, vI a1, vI a2]) hst z_mX11_at rfl ?_ (Nat.le_of_ble_eq_true rfl) rfl
  unfold fX11_at
  refine G_aload_n (x := a0) (pc := 0) dX11_at_0 rfl ?_
  refine G_callVN (as := []) (st := []) (c := 11) (bc2 := 1) (bs2 := 6) (pc := 1) dX11_at_1 z_mX11_refresh z_vX11_refresh z_wX11_124 (gX11_refresh hst fu s a0) rfl rfl (by decide) rfl rfl ⟨by decide, by decide, by decide, by decide, Nat.le_of_ble_eq_true rfl⟩ rfl (fun s1 => ?_)
  refine G_aload_n (x := a0) (pc := 4) dX11_at_4 rfl ?_
  refine G_iload_n (x := a1) (pc := 5) dX11_at_5 rfl ?_
  refine G_aload_n (x := a0) (pc := 6) dX11_at_6 rfl ?_
  refine G_getR (j := 8) (pc := 7) dX11_at_7 rfl z_CLX11 (by decide) z_wX11_74 (by decide) (fun x2 => ?_)
  refine G_getI (j := 6) (pc := 10) dX11_at_10 rfl z_CLX1 (by decide) z_wX11_176 (by decide) (fun x3 => ?_)
  refine G_callVN (as := [vI a1, vI x3]) (st := []) (c := 11) (bc2 := 0) (bs2 := 0) (pc := 13) dX11_at_13 z_mX11_needExisting z_vX11_needExisting z_wX11_153 (gX11_needExisting hst fu s1 a0 a1 x3) rfl rfl (by decide) rfl rfl ⟨by decide, by decide, by decide, by decide, Nat.le_of_ble_eq_true rfl⟩ rfl (fun s4 => ?_)
  refine G_aload_n (x := a0) (pc := 16) dX11_at_16 rfl ?_
  refine G_getR (j := 10) (pc := 17) dX11_at_17 rfl z_CLX11 (by decide) z_wX11_86 (by decide) (fun x5 => ?_)
  refine G_iload_n (x := a1) (pc := 20) dX11_at_20 rfl ?_
  refine G_iload_n (x := a2) (pc := 21) dX11_at_21 rfl ?_
  refine G_callVI (as := [vI a1, vI a2]) (st := []) (c := 3) (bc2 := 0) (bs2 := 0) (pc := 22) dX11_at_22 z_mX3_standingAt z_vX3_standingAt z_wX11_287 (gX3_standingAt hst fu s4 x5 a1 a2) rfl rfl (by decide) rfl rfl ⟨by decide, by decide, by decide, by decide, Nat.le_of_ble_eq_true rfl⟩ rfl (fun x7 s6 => ?_)
  exact G_iret (pc := 25) dX11_at_25
def fX11_ends_J36 (fu : Nat) (s : z_M) (t0 : Int) : z_O := if z_bl t0 then some (vI t0, s) else none
theorem gX11_ends_J36 {l : Launch} {K : z_K} (hst : l.stackTraces = false) (fu : Nat) (s : z_M) (t0 : Int) : G l K mX11_ends 7 172 0 0 36 [vU, vU] [vI t0] s (fX11_ends_J36 fu s t0) := by
  unfold fX11_ends_J36
  exact G_zret (pc := 36) dX11_ends_36
def fX11_ends (fu : Nat) (s : z_M) (a0 : Int) (a1 : Int) : z_O := if z_ob a0 11 then z_bN (fX11_refresh fu s a0) (fun s1 => if z_ob a0 11 then z_let (z_gr a0 6) (fun x2 => if z_ob x2 10 then z_let (s1 x2 16) (fun x3 => if z_ob a0 11 then z_bN (fX11_needExisting fu s1 a0 a1 x3) (fun s4 => if z_ob a0 11 then z_let (z_gr a0 6) (fun x5 => if z_ob x5 10 then z_let (z_gr x5 10) (fun x6 => if z_ob x6 7 then z_bI (fX7_get fu s4 x6 a1) (fun x8 s7 => if (x8 : Int) ≠ 1 then (fX11_ends_J36 fu s7 0) else (fX11_ends_J36 fu s7 1)) else none) else none) else none) else none) else none) else none) else none
theorem gX11_ends {l : Launch} {K : z_K} (hst : l.stackTraces = false) (fu : Nat) (s : z_M) (a0 : Int) (a1 : Int) : z_D l K mX11_ends 7 172 1 6 [vR a0, vI a1] s (fX11_ends fu s a0 a1) := by
  refine z_D_of (lv := [vR a0, vI a1]) hst z_mX11_ends rfl ?_ (Nat.le_of_ble_eq_true rfl) rfl
  unfold fX11_ends
  refine G_aload_n (x := a0) (pc := 0) dX11_ends_0 rfl ?_
  refine G_callVN (as := []) (st := []) (c := 11) (bc2 := 1) (bs2 := 6) (pc := 1) dX11_ends_1 z_mX11_refresh z_vX11_refresh z_wX11_124 (gX11_refresh hst fu s a0) rfl rfl (by decide) rfl rfl ⟨by decide, by decide, by decide, by decide, Nat.le_of_ble_eq_true rfl⟩ rfl (fun s1 => ?_)
  refine G_aload_n (x := a0) (pc := 4) dX11_ends_4 rfl ?_
  refine G_iload_n (x := a1) (pc := 5) dX11_ends_5 rfl ?_
  refine G_aload_n (x := a0) (pc := 6) dX11_ends_6 rfl ?_
  refine G_getR (j := 6) (pc := 7) dX11_ends_7 rfl z_CLX11 (by decide) z_wX11_56 (by decide) (fun x2 => ?_)
  refine G_getI (j := 16) (pc := 10) dX11_ends_10 rfl z_CLX10 (by decide) z_wX11_127 (by decide) (fun x3 => ?_)
  refine G_callVN (as := [vI a1, vI x3]) (st := []) (c := 11) (bc2 := 0) (bs2 := 0) (pc := 13) dX11_ends_13 z_mX11_needExisting z_vX11_needExisting z_wX11_153 (gX11_needExisting hst fu s1 a0 a1 x3) rfl rfl (by decide) rfl rfl ⟨by decide, by decide, by decide, by decide, Nat.le_of_ble_eq_true rfl⟩ rfl (fun s4 => ?_)
  refine G_aload_n (x := a0) (pc := 16) dX11_ends_16 rfl ?_
  refine G_getR (j := 6) (pc := 17) dX11_ends_17 rfl z_CLX11 (by decide) z_wX11_56 (by decide) (fun x5 => ?_)
  refine G_getR (j := 10) (pc := 20) dX11_ends_20 rfl z_CLX10 (by decide) z_wX11_290 (by decide) (fun x6 => ?_)
  refine G_iload_n (x := a1) (pc := 23) dX11_ends_23 rfl ?_
  refine G_callVI (as := [vI a1]) (st := []) (c := 7) (bc2 := 0) (bs2 := 0) (pc := 24) dX11_ends_24 z_mX7_get z_vX7_get z_wX11_143 (gX7_get hst fu s4 x6 a1) rfl rfl (by decide) rfl rfl ⟨by decide, by decide, by decide, by decide, Nat.le_of_ble_eq_true rfl⟩ rfl (fun x8 s7 => ?_)
  refine G_iconst (pc := 27) dX11_ends_27 ?_
  refine G_icmp_ne (tgt := 35) (pc := 28) dX11_ends_28 ?_ ?_
  · refine G_iconst (pc := 35) dX11_ends_35 ?_
    refine G_fg (lv2 := [vU, vU]) ⟨Or.inl rfl, Or.inl rfl, trivial⟩ ?_
    exact gX11_ends_J36 hst fu s7 0
  · refine G_iconst (pc := 31) dX11_ends_31 ?_
    refine G_goto (tgt := 36) (pc := 32) dX11_ends_32 ?_
    refine G_fg (lv2 := [vU, vU]) ⟨Or.inl rfl, Or.inl rfl, trivial⟩ ?_
    exact gX11_ends_J36 hst fu s7 1
def fX11_longOf (fu : Nat) (s : z_M) (a0 : Int) (a1 : Int) (a2 : Int) : z_O := if z_ob a0 11 then z_bN (fX11_refresh fu s a0) (fun s1 => if z_ob a0 11 then z_let (z_gr a0 6) (fun x2 => if z_ob x2 10 then z_let (s1 x2 16) (fun x3 => if z_ob a0 11 then z_bN (fX11_needExisting fu s1 a0 a1 x3) (fun s4 => if z_ob a0 11 then z_let (z_gr a0 6) (fun x5 => if z_ob x5 10 then z_let (s4 x5 16) (fun x6 => if z_ob a0 11 then z_bN (fX11_needExisting fu s4 a0 a2 x6) (fun s7 => if z_ob a0 11 then z_let (z_gr a0 6) (fun x8 => if z_ob x8 10 then z_let (s7 x8 16) (fun x9 => if z_ob a0 11 then z_bN (fX11_needWithin fu s7 a0 a2 a1 x9) (fun s10 => if z_ob a0 11 then z_let (z_gr a0 7) (fun x11 => if z_ob x11 5 then z_bI (fX5_lengthOf fu s10 x11 a1 a2) (fun x13 s12 => some (vI x13, s12)) else none) else none) else none) else none) else none) else none) else none) else none) else none) else none) else none) else none
theorem gX11_longOf {l : Launch} {K : z_K} (hst : l.stackTraces = false) (fu : Nat) (s : z_M) (a0 : Int) (a1 : Int) (a2 : Int) : z_D l K mX11_longOf 7 172 3 18 [vR a0, vI a1, vI a2] s (fX11_longOf fu s a0 a1 a2) := by
  refine z_D_of (lv := [vR a0, vI a1, vI a2]) hst z_mX11_longOf rfl ?_ (Nat.le_of_ble_eq_true rfl) rfl
  unfold fX11_longOf
  refine G_aload_n (x := a0) (pc := 0) dX11_longOf_0 rfl ?_
  refine G_callVN (as := []) (st := []) (c := 11) (bc2 := 3) (bs2 := 18) (pc := 1) dX11_longOf_1 z_mX11_refresh z_vX11_refresh z_wX11_124 (gX11_refresh hst fu s a0) rfl rfl (by decide) rfl rfl ⟨by decide, by decide, by decide, by decide, Nat.le_of_ble_eq_true rfl⟩ rfl (fun s1 => ?_)
  refine G_aload_n (x := a0) (pc := 4) dX11_longOf_4 rfl ?_
  refine G_iload_n (x := a1) (pc := 5) dX11_longOf_5 rfl ?_
  refine G_aload_n (x := a0) (pc := 6) dX11_longOf_6 rfl ?_
  refine G_getR (j := 6) (pc := 7) dX11_longOf_7 rfl z_CLX11 (by decide) z_wX11_56 (by decide) (fun x2 => ?_)
  refine G_getI (j := 16) (pc := 10) dX11_longOf_10 rfl z_CLX10 (by decide) z_wX11_127 (by decide) (fun x3 => ?_)
  refine G_callVN (as := [vI a1, vI x3]) (st := []) (c := 11) (bc2 := 2) (bs2 := 12) (pc := 13) dX11_longOf_13 z_mX11_needExisting z_vX11_needExisting z_wX11_153 (gX11_needExisting hst fu s1 a0 a1 x3) rfl rfl (by decide) rfl rfl ⟨by decide, by decide, by decide, by decide, Nat.le_of_ble_eq_true rfl⟩ rfl (fun s4 => ?_)
  refine G_aload_n (x := a0) (pc := 16) dX11_longOf_16 rfl ?_
  refine G_iload_n (x := a2) (pc := 17) dX11_longOf_17 rfl ?_
  refine G_aload_n (x := a0) (pc := 18) dX11_longOf_18 rfl ?_
  refine G_getR (j := 6) (pc := 19) dX11_longOf_19 rfl z_CLX11 (by decide) z_wX11_56 (by decide) (fun x5 => ?_)
  refine G_getI (j := 16) (pc := 22) dX11_longOf_22 rfl z_CLX10 (by decide) z_wX11_127 (by decide) (fun x6 => ?_)
  refine G_callVN (as := [vI a2, vI x6]) (st := []) (c := 11) (bc2 := 1) (bs2 := 6) (pc := 25) dX11_longOf_25 z_mX11_needExisting z_vX11_needExisting z_wX11_153 (gX11_needExisting hst fu s4 a0 a2 x6) rfl rfl (by decide) rfl rfl ⟨by decide, by decide, by decide, by decide, Nat.le_of_ble_eq_true rfl⟩ rfl (fun s7 => ?_)
  refine G_aload_n (x := a0) (pc := 28) dX11_longOf_28 rfl ?_
  refine G_iload_n (x := a2) (pc := 29) dX11_longOf_29 rfl ?_
  refine G_iload_n (x := a1) (pc := 30) dX11_longOf_30 rfl ?_
  refine G_aload_n (x := a0) (pc := 31) dX11_longOf_31 rfl ?_
  refine G_getR (j := 6) (pc := 32) dX11_longOf_32 rfl z_CLX11 (by decide) z_wX11_56 (by decide) (fun x8 => ?_)
  refine G_getI (j := 16) (pc := 35) dX11_longOf_35 rfl z_CLX10 (by decide) z_wX11_127 (by decide) (fun x9 => ?_)
  refine G_callVN (as := [vI a2, vI a1, vI x9]) (st := []) (c := 11) (bc2 := 0) (bs2 := 0) (pc := 38) dX11_longOf_38 z_mX11_needWithin z_vX11_needWithin z_wX11_113 (gX11_needWithin hst fu s7 a0 a2 a1 x9) rfl rfl (by decide) rfl rfl ⟨by decide, by decide, by decide, by decide, Nat.le_of_ble_eq_true rfl⟩ rfl (fun s10 => ?_)
  refine G_aload_n (x := a0) (pc := 41) dX11_longOf_41 rfl ?_
  refine G_getR (j := 7) (pc := 42) dX11_longOf_42 rfl z_CLX11 (by decide) z_wX11_65 (by decide) (fun x11 => ?_)
  refine G_iload_n (x := a1) (pc := 45) dX11_longOf_45 rfl ?_
  refine G_iload_n (x := a2) (pc := 46) dX11_longOf_46 rfl ?_
  refine G_callVI (as := [vI a1, vI a2]) (st := []) (c := 5) (bc2 := 0) (bs2 := 0) (pc := 47) dX11_longOf_47 z_mX5_lengthOf z_vX5_lengthOf z_wX11_293 (gX5_lengthOf hst fu s10 x11 a1 a2) rfl rfl (by decide) rfl rfl ⟨by decide, by decide, by decide, by decide, Nat.le_of_ble_eq_true rfl⟩ rfl (fun x13 s12 => ?_)
  exact G_iret (pc := 50) dX11_longOf_50
def fX11_lines (fu : Nat) (s : z_M) (a0 : Int) (a1 : Int) (a2 : Int) : z_O := z_bI (fX11_pick fu s 0 0) (fun x2 s1 => z_bI (fX11_pick fu s1 1 0) (fun x4 s3 => if z_ob a0 11 then z_bN (fX11_needWithin fu s3 a0 a1 x2 x4) (fun s5 => if z_ob a0 11 then z_bN (fX11_needWithin fu s5 a0 a2 0 1) (fun s6 => if z_ob a0 11 then z_bN (fX11_refresh fu s6 a0) (fun s7 => if z_ob a0 11 then z_let (z_gr a0 9) (fun x8 => if z_ob x8 1 then z_bN (fX1_go fu s7 x8 a1 a2) (fun s9 => if z_ob a0 11 then z_let (z_gr a0 9) (fun x10 => if z_ob x10 1 then z_let (s9 x10 6) (fun x11 => some (vI x11, s9)) else none) else none) else none) else none) else none) else none) else none))
theorem gX11_lines {l : Launch} {K : z_K} (hst : l.stackTraces = false) (fu : Nat) (s : z_M) (a0 : Int) (a1 : Int) (a2 : Int) : z_D l K mX11_lines 7 172 2 12 [vR a0, vI a1, vI a2] s (fX11_lines fu s a0 a1 a2) := by
  refine z_D_of (lv := [vR a0, vI a1, vI a2]) hst z_mX11_lines rfl ?_ (Nat.le_of_ble_eq_true rfl) rfl
  unfold fX11_lines
  refine G_aload_n (x := a0) (pc := 0) dX11_lines_0 rfl ?_
  refine G_iload_n (x := a1) (pc := 1) dX11_lines_1 rfl ?_
  refine G_gets (i := 0) (pc := 2) dX11_lines_2 z_wX11_133 ?_
  refine G_iconst (pc := 5) dX11_lines_5 ?_
  refine G_callSI (as := [vT 0, vI 0]) (st := [vI a1, vR a0]) (bc2 := 2) (bs2 := 12) (pc := 6) dX11_lines_6 z_mX11_pick z_sX11_pick z_wX11_136 (gX11_pick hst fu s 0 0) rfl rfl ⟨by decide, by decide, by decide, by decide, Nat.le_of_ble_eq_true rfl⟩ rfl (fun x2 s1 => ?_)
  refine G_gets (i := 1) (pc := 9) dX11_lines_9 z_wX11_140 ?_
  refine G_iconst (pc := 12) dX11_lines_12 ?_
  refine G_callSI (as := [vT 1, vI 0]) (st := [vI x2, vI a1, vR a0]) (bc2 := 2) (bs2 := 12) (pc := 13) dX11_lines_13 z_mX11_pick z_sX11_pick z_wX11_136 (gX11_pick hst fu s1 1 0) rfl rfl ⟨by decide, by decide, by decide, by decide, Nat.le_of_ble_eq_true rfl⟩ rfl (fun x4 s3 => ?_)
  refine G_callVN (as := [vI a1, vI x2, vI x4]) (st := []) (c := 11) (bc2 := 1) (bs2 := 6) (pc := 16) dX11_lines_16 z_mX11_needWithin z_vX11_needWithin z_wX11_113 (gX11_needWithin hst fu s3 a0 a1 x2 x4) rfl rfl (by decide) rfl rfl ⟨by decide, by decide, by decide, by decide, Nat.le_of_ble_eq_true rfl⟩ rfl (fun s5 => ?_)
  refine G_aload_n (x := a0) (pc := 19) dX11_lines_19 rfl ?_
  refine G_iload_n (x := a2) (pc := 20) dX11_lines_20 rfl ?_
  refine G_iconst (pc := 21) dX11_lines_21 ?_
  refine G_iconst (pc := 22) dX11_lines_22 ?_
  refine G_callVN (as := [vI a2, vI 0, vI 1]) (st := []) (c := 11) (bc2 := 0) (bs2 := 0) (pc := 23) dX11_lines_23 z_mX11_needWithin z_vX11_needWithin z_wX11_113 (gX11_needWithin hst fu s5 a0 a2 0 1) rfl rfl (by decide) rfl rfl ⟨by decide, by decide, by decide, by decide, Nat.le_of_ble_eq_true rfl⟩ rfl (fun s6 => ?_)
  refine G_aload_n (x := a0) (pc := 26) dX11_lines_26 rfl ?_
  refine G_callVN (as := []) (st := []) (c := 11) (bc2 := 0) (bs2 := 0) (pc := 27) dX11_lines_27 z_mX11_refresh z_vX11_refresh z_wX11_124 (gX11_refresh hst fu s6 a0) rfl rfl (by decide) rfl rfl ⟨by decide, by decide, by decide, by decide, Nat.le_of_ble_eq_true rfl⟩ rfl (fun s7 => ?_)
  refine G_aload_n (x := a0) (pc := 30) dX11_lines_30 rfl ?_
  refine G_getR (j := 9) (pc := 31) dX11_lines_31 rfl z_CLX11 (by decide) z_wX11_78 (by decide) (fun x8 => ?_)
  refine G_iload_n (x := a1) (pc := 34) dX11_lines_34 rfl ?_
  refine G_iload_n (x := a2) (pc := 35) dX11_lines_35 rfl ?_
  refine G_callVN (as := [vI a1, vI a2]) (st := []) (c := 1) (bc2 := 0) (bs2 := 0) (pc := 36) dX11_lines_36 z_mX1_go z_vX1_go z_wX11_296 (gX1_go hst fu s7 x8 a1 a2) rfl rfl (by decide) rfl rfl ⟨by decide, by decide, by decide, by decide, Nat.le_of_ble_eq_true rfl⟩ rfl (fun s9 => ?_)
  refine G_aload_n (x := a0) (pc := 39) dX11_lines_39 rfl ?_
  refine G_getR (j := 9) (pc := 40) dX11_lines_40 rfl z_CLX11 (by decide) z_wX11_78 (by decide) (fun x10 => ?_)
  refine G_getI (j := 6) (pc := 43) dX11_lines_43 rfl z_CLX1 (by decide) z_wX11_176 (by decide) (fun x11 => ?_)
  exact G_iret (pc := 46) dX11_lines_46
def fX1_fewest_J128 (fu : Nat) (s : z_M) (a0 : Int) (a1 : Int) (a2 : Int) (a3 : Int) (a4 : Int) (a5 : Int) (r : z_M → Int → Int → z_O) (k : z_M → Int → z_O) : z_O := z_let (z_w (a5 + 1)) (fun x18 => r s a4 x18)
theorem gX1_fewest_J128 {l : Launch} {K : z_K} (hst : l.stackTraces = false) (fu : Nat) (s : z_M) (a0 : Int) (a1 : Int) (a2 : Int) (a3 : Int) (a4 : Int) (a5 : Int) (r : z_M → Int → Int → z_O) (k : z_M → Int → z_O) (hr : ∀ (s : z_M) (a4 : Int) (a5 : Int), G l K mX1_fewest 4 102 0 0 37 [vR a0, vI a1, vI a2, vI a3, vI a4, vI a5, vU, vU] [] s (r s a4 a5)) (hk : ∀ (s : z_M) (a4 : Int), G l K mX1_fewest 4 102 0 0 134 [vR a0, vI a1, vI a2, vI a3, vI a4, vU, vU, vU] [] s (k s a4)) : G l K mX1_fewest 4 102 0 0 128 [vR a0, vI a1, vI a2, vI a3, vI a4, vI a5, vU, vU] [] s (fX1_fewest_J128 fu s a0 a1 a2 a3 a4 a5 r k) := by
  unfold fX1_fewest_J128
  refine G_iinc (x := a5) (g := fun x18 => [vR a0, vI a1, vI a2, vI a3, vI a4, vI x18, vU, vU]) (pc := 128) dX1_fewest_128 rfl (fun _ => rfl) (fun x18 => ?_)
  refine G_goto (tgt := 37) (pc := 131) dX1_fewest_131 ?_
  exact hr s a4 x18
def fX1_fewest_J103 (fu : Nat) (s : z_M) (a0 : Int) (a1 : Int) (a2 : Int) (a3 : Int) (a4 : Int) (a5 : Int) (a6 : Int) (t0 : Int) (r : z_M → Int → Int → z_O) (k : z_M → Int → z_O) : z_O := if (t0 : Int) = 0 then (fX1_fewest_J128 fu s a0 a1 a2 a3 a4 a5 (fun w v4 v5 => r w v4 v5) k) else (if z_ob a0 1 then z_let (z_gr a0 1) (fun x19 => if z_ob x19 5 then z_bI (fX5_lengthOf fu s x19 a3 a5) (fun x21 s20 => if (a1 : Int) < x21 then (fX1_fewest_J128 fu s20 a0 a1 a2 a3 a4 a5 (fun w v4 v5 => r w v4 v5) k) else (fX1_fewest_J128 fu s20 a0 a1 a2 a3 a6 a5 (fun w v4 v5 => r w v4 v5) k)) else none) else none)
theorem gX1_fewest_J103 {l : Launch} {K : z_K} (hst : l.stackTraces = false) (fu : Nat) (s : z_M) (a0 : Int) (a1 : Int) (a2 : Int) (a3 : Int) (a4 : Int) (a5 : Int) (a6 : Int) (t0 : Int) (r : z_M → Int → Int → z_O) (k : z_M → Int → z_O) (hr : ∀ (s : z_M) (a4 : Int) (a5 : Int), G l K mX1_fewest 4 102 0 0 37 [vR a0, vI a1, vI a2, vI a3, vI a4, vI a5, vU, vU] [] s (r s a4 a5)) (hk : ∀ (s : z_M) (a4 : Int), G l K mX1_fewest 4 102 0 0 134 [vR a0, vI a1, vI a2, vI a3, vI a4, vU, vU, vU] [] s (k s a4)) : G l K mX1_fewest 4 102 0 0 103 [vR a0, vI a1, vI a2, vI a3, vI a4, vI a5, vI a6, vU] [vI t0] s (fX1_fewest_J103 fu s a0 a1 a2 a3 a4 a5 a6 t0 r k) := by
  unfold fX1_fewest_J103
  refine G_istore (lv' := [vR a0, vI a1, vI a2, vI a3, vI a4, vI a5, vI a6, vI t0]) (pc := 103) dX1_fewest_103 rfl ?_
  refine G_iload (x := t0) (pc := 105) dX1_fewest_105 rfl ?_
  refine G_if_eq (tgt := 128) (pc := 107) dX1_fewest_107 ?_ ?_
  · refine G_fg (lv2 := [vR a0, vI a1, vI a2, vI a3, vI a4, vI a5, vU, vU]) ⟨Or.inr rfl, Or.inr rfl, Or.inr rfl, Or.inr rfl, Or.inr rfl, Or.inr rfl, Or.inl rfl, Or.inl rfl, trivial⟩ ?_
    exact gX1_fewest_J128 hst fu s a0 a1 a2 a3 a4 a5 _ _ (fun w v4 v5 => hr w v4 v5) hk
  · refine G_aload_n (x := a0) (pc := 110) dX1_fewest_110 rfl ?_
    refine G_getR (j := 1) (pc := 111) dX1_fewest_111 rfl z_CLX1 (by decide) z_wX1_37 (by decide) (fun x19 => ?_)
    refine G_iload_n (x := a3) (pc := 114) dX1_fewest_114 rfl ?_
    refine G_iload (x := a5) (pc := 115) dX1_fewest_115 rfl ?_
    refine G_callVI (as := [vI a3, vI a5]) (st := []) (c := 5) (bc2 := 0) (bs2 := 0) (pc := 117) dX1_fewest_117 z_mX5_lengthOf z_vX5_lengthOf z_wX1_71 (gX5_lengthOf hst fu s x19 a3 a5) rfl rfl (by decide) rfl rfl ⟨by decide, by decide, by decide, by decide, Nat.le_of_ble_eq_true rfl⟩ rfl (fun x21 s20 => ?_)
    refine G_iload_n (x := a1) (pc := 120) dX1_fewest_120 rfl ?_
    refine G_icmp_gt (tgt := 128) (pc := 121) dX1_fewest_121 ?_ ?_
    · refine G_fg (lv2 := [vR a0, vI a1, vI a2, vI a3, vI a4, vI a5, vU, vU]) ⟨Or.inr rfl, Or.inr rfl, Or.inr rfl, Or.inr rfl, Or.inr rfl, Or.inr rfl, Or.inl rfl, Or.inl rfl, trivial⟩ ?_
      exact gX1_fewest_J128 hst fu s20 a0 a1 a2 a3 a4 a5 _ _ (fun w v4 v5 => hr w v4 v5) hk
    · refine G_iload (x := a6) (pc := 124) dX1_fewest_124 rfl ?_
      refine G_istore (lv' := [vR a0, vI a1, vI a2, vI a3, vI a6, vI a5, vI a6, vI t0]) (pc := 126) dX1_fewest_126 rfl ?_
      refine G_fg (lv2 := [vR a0, vI a1, vI a2, vI a3, vI a6, vI a5, vU, vU]) ⟨Or.inr rfl, Or.inr rfl, Or.inr rfl, Or.inr rfl, Or.inr rfl, Or.inr rfl, Or.inl rfl, Or.inl rfl, trivial⟩ ?_
      exact gX1_fewest_J128 hst fu s20 a0 a1 a2 a3 a6 a5 _ _ (fun w v4 v5 => hr w v4 v5) hk
def fX1_fewest_J102 (fu : Nat) (s : z_M) (a0 : Int) (a1 : Int) (a2 : Int) (a3 : Int) (a4 : Int) (a5 : Int) (a6 : Int) (r : z_M → Int → Int → z_O) (k : z_M → Int → z_O) : z_O := fX1_fewest_J103 fu s a0 a1 a2 a3 a4 a5 a6 0 (fun w v4 v5 => r w v4 v5) k
theorem gX1_fewest_J102 {l : Launch} {K : z_K} (hst : l.stackTraces = false) (fu : Nat) (s : z_M) (a0 : Int) (a1 : Int) (a2 : Int) (a3 : Int) (a4 : Int) (a5 : Int) (a6 : Int) (r : z_M → Int → Int → z_O) (k : z_M → Int → z_O) (hr : ∀ (s : z_M) (a4 : Int) (a5 : Int), G l K mX1_fewest 4 102 0 0 37 [vR a0, vI a1, vI a2, vI a3, vI a4, vI a5, vU, vU] [] s (r s a4 a5)) (hk : ∀ (s : z_M) (a4 : Int), G l K mX1_fewest 4 102 0 0 134 [vR a0, vI a1, vI a2, vI a3, vI a4, vU, vU, vU] [] s (k s a4)) : G l K mX1_fewest 4 102 0 0 102 [vR a0, vI a1, vI a2, vI a3, vI a4, vI a5, vI a6, vU] [] s (fX1_fewest_J102 fu s a0 a1 a2 a3 a4 a5 a6 r k) := by
  unfold fX1_fewest_J102
  refine G_iconst (pc := 102) dX1_fewest_102 ?_
  exact gX1_fewest_J103 hst fu s a0 a1 a2 a3 a4 a5 a6 0 _ _ (fun w v4 v5 => hr w v4 v5) hk
def fX1_fewest_J98 (fu : Nat) (s : z_M) (a0 : Int) (a1 : Int) (a2 : Int) (a3 : Int) (a4 : Int) (a5 : Int) (a6 : Int) (r : z_M → Int → Int → z_O) (k : z_M → Int → z_O) : z_O := fX1_fewest_J103 fu s a0 a1 a2 a3 a4 a5 a6 1 (fun w v4 v5 => r w v4 v5) k
theorem gX1_fewest_J98 {l : Launch} {K : z_K} (hst : l.stackTraces = false) (fu : Nat) (s : z_M) (a0 : Int) (a1 : Int) (a2 : Int) (a3 : Int) (a4 : Int) (a5 : Int) (a6 : Int) (r : z_M → Int → Int → z_O) (k : z_M → Int → z_O) (hr : ∀ (s : z_M) (a4 : Int) (a5 : Int), G l K mX1_fewest 4 102 0 0 37 [vR a0, vI a1, vI a2, vI a3, vI a4, vI a5, vU, vU] [] s (r s a4 a5)) (hk : ∀ (s : z_M) (a4 : Int), G l K mX1_fewest 4 102 0 0 134 [vR a0, vI a1, vI a2, vI a3, vI a4, vU, vU, vU] [] s (k s a4)) : G l K mX1_fewest 4 102 0 0 98 [vR a0, vI a1, vI a2, vI a3, vI a4, vI a5, vI a6, vU] [] s (fX1_fewest_J98 fu s a0 a1 a2 a3 a4 a5 a6 r k) := by
  unfold fX1_fewest_J98
  refine G_iconst (pc := 98) dX1_fewest_98 ?_
  refine G_goto (tgt := 103) (pc := 99) dX1_fewest_99 ?_
  exact gX1_fewest_J103 hst fu s a0 a1 a2 a3 a4 a5 a6 1 _ _ (fun w v4 v5 => hr w v4 v5) hk
def fX1_fewest_L37 (fu : Nat) (a0 : Int) (a1 : Int) (a2 : Int) (a3 : Int) : Nat → z_M → Int → Int → (z_M → Int → z_O) → z_O
  | 0, _, _, _, _ => none
  | F + 1, s, a4, a5, k => if z_ob a0 1 then z_let (z_gr a0 0) (fun x8 => if z_ob x8 10 then z_let (s x8 16) (fun x9 => if (x9 : Int) ≤ a5 then (k s a4) else (if z_ob a0 1 then z_let (z_gr a0 0) (fun x10 => if z_ob x10 10 then z_bI (fX10_solid fu s x10 a3 a5) (fun x12 s11 => if (a1 : Int) < x12 then (k s11 a4) else (if z_ob a0 1 then z_let (z_gr a0 4) (fun x13 => z_let (z_w (a5 + 1)) (fun x14 => if z_ob x13 7 then z_bI (fX7_get fu s11 x13 x14) (fun x16 s15 => z_let (z_w (x16 + 1)) (fun x17 => if (a4 : Int) ≤ x17 then (fX1_fewest_J102 fu s15 a0 a1 a2 a3 a4 a5 x17 (fun w v4 v5 => fX1_fewest_L37 fu a0 a1 a2 a3 F w v4 v5 k) k) else (if (a2 : Int) = 0 then (fX1_fewest_J98 fu s15 a0 a1 a2 a3 a4 a5 x17 (fun w v4 v5 => fX1_fewest_L37 fu a0 a1 a2 a3 F w v4 v5 k) k) else (if z_ob a0 1 then z_bI (fX1_closesLine fu s15 a0 a5) (fun x23 s22 => if (x23 : Int) = 0 then (fX1_fewest_J102 fu s22 a0 a1 a2 a3 a4 a5 x17 (fun w v4 v5 => fX1_fewest_L37 fu a0 a1 a2 a3 F w v4 v5 k) k) else (fX1_fewest_J98 fu s22 a0 a1 a2 a3 a4 a5 x17 (fun w v4 v5 => fX1_fewest_L37 fu a0 a1 a2 a3 F w v4 v5 k) k)) else none)))) else none)) else none)) else none) else none)) else none) else none
theorem gX1_fewest_L37 {l : Launch} {K : z_K} (hst : l.stackTraces = false) (fu : Nat) (a0 : Int) (a1 : Int) (a2 : Int) (a3 : Int) (k : z_M → Int → z_O) (hk : ∀ (s : z_M) (a4 : Int), G l K mX1_fewest 4 102 0 0 134 [vR a0, vI a1, vI a2, vI a3, vI a4, vU, vU, vU] [] s (k s a4)) : ∀ (F : Nat) (s : z_M) (a4 : Int) (a5 : Int), G l K mX1_fewest 4 102 0 0 37 [vR a0, vI a1, vI a2, vI a3, vI a4, vI a5, vU, vU] [] s (fX1_fewest_L37 fu a0 a1 a2 a3 F s a4 a5 k) := by
  intro F
  induction F with
  | zero => exact fun s a4 a5 h => absurd rfl h
  | succ F ih =>
    intro s a4 a5
    rw [fX1_fewest_L37]
    refine G_iload (x := a5) (pc := 37) dX1_fewest_37 rfl ?_
    refine G_aload_n (x := a0) (pc := 39) dX1_fewest_39 rfl ?_
    refine G_getR (j := 0) (pc := 40) dX1_fewest_40 rfl z_CLX1 (by decide) z_wX1_33 (by decide) (fun x8 => ?_)
    refine G_getI (j := 16) (pc := 43) dX1_fewest_43 rfl z_CLX10 (by decide) z_wX1_48 (by decide) (fun x9 => ?_)
    refine G_icmp_ge (tgt := 134) (pc := 46) dX1_fewest_46 ?_ ?_
    · refine G_fg (lv2 := [vR a0, vI a1, vI a2, vI a3, vI a4, vU, vU, vU]) ⟨Or.inr rfl, Or.inr rfl, Or.inr rfl, Or.inr rfl, Or.inr rfl, Or.inl rfl, Or.inl rfl, Or.inl rfl, trivial⟩ ?_
      exact hk s a4
    · refine G_aload_n (x := a0) (pc := 49) dX1_fewest_49 rfl ?_
      refine G_getR (j := 0) (pc := 50) dX1_fewest_50 rfl z_CLX1 (by decide) z_wX1_33 (by decide) (fun x10 => ?_)
      refine G_iload_n (x := a3) (pc := 53) dX1_fewest_53 rfl ?_
      refine G_iload (x := a5) (pc := 54) dX1_fewest_54 rfl ?_
      refine G_callVI (as := [vI a3, vI a5]) (st := []) (c := 10) (bc2 := 0) (bs2 := 0) (pc := 56) dX1_fewest_56 z_mX10_solid z_vX10_solid z_wX1_68 (gX10_solid hst fu s x10 a3 a5) rfl rfl (by decide) rfl rfl ⟨by decide, by decide, by decide, by decide, Nat.le_of_ble_eq_true rfl⟩ rfl (fun x12 s11 => ?_)
      refine G_iload_n (x := a1) (pc := 59) dX1_fewest_59 rfl ?_
      refine G_icmp_gt (tgt := 134) (pc := 60) dX1_fewest_60 ?_ ?_
      · refine G_fg (lv2 := [vR a0, vI a1, vI a2, vI a3, vI a4, vU, vU, vU]) ⟨Or.inr rfl, Or.inr rfl, Or.inr rfl, Or.inr rfl, Or.inr rfl, Or.inl rfl, Or.inl rfl, Or.inl rfl, trivial⟩ ?_
        exact hk s11 a4
      · refine G_aload_n (x := a0) (pc := 63) dX1_fewest_63 rfl ?_
        refine G_getR (j := 4) (pc := 64) dX1_fewest_64 rfl z_CLX1 (by decide) z_wX1_27 (by decide) (fun x13 => ?_)
        refine G_iload (x := a5) (pc := 67) dX1_fewest_67 rfl ?_
        refine G_iconst (pc := 69) dX1_fewest_69 ?_
        refine G_iadd (pc := 70) dX1_fewest_70 (fun x14 => ?_)
        refine G_callVI (as := [vI x14]) (st := []) (c := 7) (bc2 := 0) (bs2 := 0) (pc := 71) dX1_fewest_71 z_mX7_get z_vX7_get z_wX1_55 (gX7_get hst fu s11 x13 x14) rfl rfl (by decide) rfl rfl ⟨by decide, by decide, by decide, by decide, Nat.le_of_ble_eq_true rfl⟩ rfl (fun x16 s15 => ?_)
        refine G_iconst (pc := 74) dX1_fewest_74 ?_
        refine G_iadd (pc := 75) dX1_fewest_75 (fun x17 => ?_)
        refine G_istore (lv' := [vR a0, vI a1, vI a2, vI a3, vI a4, vI a5, vI x17, vU]) (pc := 76) dX1_fewest_76 rfl ?_
        refine G_iload (x := x17) (pc := 78) dX1_fewest_78 rfl ?_
        refine G_iload (x := a4) (pc := 80) dX1_fewest_80 rfl ?_
        refine G_icmp_ge (tgt := 102) (pc := 82) dX1_fewest_82 ?_ ?_
        · exact gX1_fewest_J102 hst fu s15 a0 a1 a2 a3 a4 a5 x17 _ _ (fun w v4 v5 => ih w v4 v5) hk
        · refine G_iload_n (x := a2) (pc := 85) dX1_fewest_85 rfl ?_
          refine G_if_eq (tgt := 98) (pc := 86) dX1_fewest_86 ?_ ?_
          · exact gX1_fewest_J98 hst fu s15 a0 a1 a2 a3 a4 a5 x17 _ _ (fun w v4 v5 => ih w v4 v5) hk
          · refine G_aload_n (x := a0) (pc := 89) dX1_fewest_89 rfl ?_
            refine G_iload (x := a5) (pc := 90) dX1_fewest_90 rfl ?_
            refine G_callVI (as := [vI a5]) (st := []) (c := 1) (bc2 := 0) (bs2 := 0) (pc := 92) dX1_fewest_92 z_mX1_closesLine z_vX1_closesLine z_wX1_76 (gX1_closesLine hst fu s15 a0 a5) rfl rfl (by decide) rfl rfl ⟨by decide, by decide, by decide, by decide, Nat.le_of_ble_eq_true rfl⟩ rfl (fun x23 s22 => ?_)
            refine G_if_eq (tgt := 102) (pc := 95) dX1_fewest_95 ?_ ?_
            · exact gX1_fewest_J102 hst fu s22 a0 a1 a2 a3 a4 a5 x17 _ _ (fun w v4 v5 => ih w v4 v5) hk
            · exact gX1_fewest_J98 hst fu s22 a0 a1 a2 a3 a4 a5 x17 _ _ (fun w v4 v5 => ih w v4 v5) hk
def fX1_fewest_J134 (fu : Nat) (s : z_M) (a0 : Int) (a1 : Int) (a2 : Int) (a3 : Int) (a4 : Int) (r : z_M → Int → z_O) (k : z_M → z_O) : z_O := if z_ob a0 1 then z_let (z_gr a0 4) (fun x26 => if z_ob x26 7 then z_bN (fX7_put fu s x26 a3 a4) (fun s27 => z_let (z_w (a3 + (-1))) (fun x28 => r s27 x28)) else none) else none
theorem gX1_fewest_J134 {l : Launch} {K : z_K} (hst : l.stackTraces = false) (fu : Nat) (s : z_M) (a0 : Int) (a1 : Int) (a2 : Int) (a3 : Int) (a4 : Int) (r : z_M → Int → z_O) (k : z_M → z_O) (hr : ∀ (s : z_M) (a3 : Int), G l K mX1_fewest 4 102 0 0 25 [vR a0, vI a1, vI a2, vI a3, vU, vU, vU, vU] [] s (r s a3)) (hk : ∀ (s : z_M), G l K mX1_fewest 4 102 0 0 150 [vR a0, vU, vU, vU, vU, vU, vU, vU] [] s (k s)) : G l K mX1_fewest 4 102 0 0 134 [vR a0, vI a1, vI a2, vI a3, vI a4, vU, vU, vU] [] s (fX1_fewest_J134 fu s a0 a1 a2 a3 a4 r k) := by
  unfold fX1_fewest_J134
  refine G_aload_n (x := a0) (pc := 134) dX1_fewest_134 rfl ?_
  refine G_getR (j := 4) (pc := 135) dX1_fewest_135 rfl z_CLX1 (by decide) z_wX1_27 (by decide) (fun x26 => ?_)
  refine G_iload_n (x := a3) (pc := 138) dX1_fewest_138 rfl ?_
  refine G_iload (x := a4) (pc := 139) dX1_fewest_139 rfl ?_
  refine G_callVN (as := [vI a3, vI a4]) (st := []) (c := 7) (bc2 := 0) (bs2 := 0) (pc := 141) dX1_fewest_141 z_mX7_put z_vX7_put z_wX1_51 (gX7_put hst fu s x26 a3 a4) rfl rfl (by decide) rfl rfl ⟨by decide, by decide, by decide, by decide, Nat.le_of_ble_eq_true rfl⟩ rfl (fun s27 => ?_)
  refine G_iinc (x := a3) (g := fun x28 => [vR a0, vI a1, vI a2, vI x28, vI a4, vU, vU, vU]) (pc := 144) dX1_fewest_144 rfl (fun _ => rfl) (fun x28 => ?_)
  refine G_goto (tgt := 25) (pc := 147) dX1_fewest_147 ?_
  refine G_fg (lv2 := [vR a0, vI a1, vI a2, vI x28, vU, vU, vU, vU]) ⟨Or.inr rfl, Or.inr rfl, Or.inr rfl, Or.inr rfl, Or.inl rfl, Or.inl rfl, Or.inl rfl, Or.inl rfl, trivial⟩ ?_
  exact hr s27 x28
def fX1_fewest_L25 (fu : Nat) (a0 : Int) (a1 : Int) (a2 : Int) : Nat → z_M → Int → (z_M → z_O) → z_O
  | 0, _, _, _ => none
  | F + 1, s, a3, k => if (a3 : Int) < 0 then (k s) else (fX1_fewest_L37 fu a0 a1 a2 a3 fu s 201 a3 (fun s24 x25 => fX1_fewest_J134 fu s24 a0 a1 a2 a3 x25 (fun w v3 => fX1_fewest_L25 fu a0 a1 a2 F w v3 k) k))
theorem gX1_fewest_L25 {l : Launch} {K : z_K} (hst : l.stackTraces = false) (fu : Nat) (a0 : Int) (a1 : Int) (a2 : Int) (k : z_M → z_O) (hk : ∀ (s : z_M), G l K mX1_fewest 4 102 0 0 150 [vR a0, vU, vU, vU, vU, vU, vU, vU] [] s (k s)) : ∀ (F : Nat) (s : z_M) (a3 : Int), G l K mX1_fewest 4 102 0 0 25 [vR a0, vI a1, vI a2, vI a3, vU, vU, vU, vU] [] s (fX1_fewest_L25 fu a0 a1 a2 F s a3 k) := by
  intro F
  induction F with
  | zero => exact fun s a3 h => absurd rfl h
  | succ F ih =>
    intro s a3
    rw [fX1_fewest_L25]
    refine G_iload_n (x := a3) (pc := 25) dX1_fewest_25 rfl ?_
    refine G_if_lt (tgt := 150) (pc := 26) dX1_fewest_26 ?_ ?_
    · refine G_fg (lv2 := [vR a0, vU, vU, vU, vU, vU, vU, vU]) ⟨Or.inr rfl, Or.inl rfl, Or.inl rfl, Or.inl rfl, Or.inl rfl, Or.inl rfl, Or.inl rfl, Or.inl rfl, trivial⟩ ?_
      exact hk s
    · refine G_sipush (pc := 29) dX1_fewest_29 ?_
      refine G_istore (lv' := [vR a0, vI a1, vI a2, vI a3, vI 201, vU, vU, vU]) (pc := 32) dX1_fewest_32 rfl ?_
      refine G_iload_n (x := a3) (pc := 34) dX1_fewest_34 rfl ?_
      refine G_istore (lv' := [vR a0, vI a1, vI a2, vI a3, vI 201, vI a3, vU, vU]) (pc := 35) dX1_fewest_35 rfl ?_
      refine gX1_fewest_L37 hst fu a0 a1 a2 a3 _ (fun s24 x25 => ?_) fu s 201 a3
      exact gX1_fewest_J134 hst fu s24 a0 a1 a2 a3 x25 _ _ (fun w v3 => ih w v3) hk
def fX1_fewest (fu : Nat) (s : z_M) (a0 : Int) (a1 : Int) (a2 : Int) : z_O := if z_ob a0 1 then z_let (z_gr a0 4) (fun x1 => if z_ob a0 1 then z_let (z_gr a0 0) (fun x2 => if z_ob x2 10 then z_let (s x2 16) (fun x3 => if z_ob x1 7 then z_bN (fX7_put fu s x1 x3 0) (fun s4 => if z_ob a0 1 then z_let (z_gr a0 0) (fun x5 => if z_ob x5 10 then z_let (s4 x5 16) (fun x6 => z_let (z_w (x6 - 1)) (fun x7 => fX1_fewest_L25 fu a0 a1 a2 fu s4 x7 (fun s29 => if z_ob a0 1 then z_let (z_gr a0 4) (fun x30 => if z_ob x30 7 then z_bI (fX7_get fu s29 x30 0) (fun x32 s31 => some (vI x32, s31)) else none) else none))) else none) else none) else none) else none) else none) else none
theorem gX1_fewest {l : Launch} {K : z_K} (hst : l.stackTraces = false) (fu : Nat) (s : z_M) (a0 : Int) (a1 : Int) (a2 : Int) : z_D l K mX1_fewest 4 102 0 0 [vR a0, vI a1, vI a2] s (fX1_fewest fu s a0 a1 a2) := by
  refine z_D_of (lv := [vR a0, vI a1, vI a2, vU, vU, vU, vU, vU]) hst z_mX1_fewest rfl ?_ (Nat.le_of_ble_eq_true rfl) rfl
  unfold fX1_fewest
  refine G_aload_n (x := a0) (pc := 0) dX1_fewest_0 rfl ?_
  refine G_getR (j := 4) (pc := 1) dX1_fewest_1 rfl z_CLX1 (by decide) z_wX1_27 (by decide) (fun x1 => ?_)
  refine G_aload_n (x := a0) (pc := 4) dX1_fewest_4 rfl ?_
  refine G_getR (j := 0) (pc := 5) dX1_fewest_5 rfl z_CLX1 (by decide) z_wX1_33 (by decide) (fun x2 => ?_)
  refine G_getI (j := 16) (pc := 8) dX1_fewest_8 rfl z_CLX10 (by decide) z_wX1_48 (by decide) (fun x3 => ?_)
  refine G_iconst (pc := 11) dX1_fewest_11 ?_
  refine G_callVN (as := [vI x3, vI 0]) (st := []) (c := 7) (bc2 := 0) (bs2 := 0) (pc := 12) dX1_fewest_12 z_mX7_put z_vX7_put z_wX1_51 (gX7_put hst fu s x1 x3 0) rfl rfl (by decide) rfl rfl ⟨by decide, by decide, by decide, by decide, Nat.le_of_ble_eq_true rfl⟩ rfl (fun s4 => ?_)
  refine G_aload_n (x := a0) (pc := 15) dX1_fewest_15 rfl ?_
  refine G_getR (j := 0) (pc := 16) dX1_fewest_16 rfl z_CLX1 (by decide) z_wX1_33 (by decide) (fun x5 => ?_)
  refine G_getI (j := 16) (pc := 19) dX1_fewest_19 rfl z_CLX10 (by decide) z_wX1_48 (by decide) (fun x6 => ?_)
  refine G_iconst (pc := 22) dX1_fewest_22 ?_
  refine G_isub (pc := 23) dX1_fewest_23 (fun x7 => ?_)
  refine G_istore_n (lv' := [vR a0, vI a1, vI a2, vI x7, vU, vU, vU, vU]) (pc := 24) dX1_fewest_24 rfl ?_
  refine gX1_fewest_L25 hst fu a0 a1 a2 _ (fun s29 => ?_) fu s4 x7
  refine G_aload_n (x := a0) (pc := 150) dX1_fewest_150 rfl ?_
  refine G_getR (j := 4) (pc := 151) dX1_fewest_151 rfl z_CLX1 (by decide) z_wX1_27 (by decide) (fun x30 => ?_)
  refine G_iconst (pc := 154) dX1_fewest_154 ?_
  refine G_callVI (as := [vI 0]) (st := []) (c := 7) (bc2 := 0) (bs2 := 0) (pc := 155) dX1_fewest_155 z_mX7_get z_vX7_get z_wX1_55 (gX7_get hst fu s29 x30 0) rfl rfl (by decide) rfl rfl ⟨by decide, by decide, by decide, by decide, Nat.le_of_ble_eq_true rfl⟩ rfl (fun x32 s31 => ?_)
  exact G_iret (pc := 158) dX1_fewest_158
