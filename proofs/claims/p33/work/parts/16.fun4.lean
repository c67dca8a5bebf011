/-! FUNCTIONS, further (by program) -/
def fX11_shortestFor_J59 (fu : Nat) (s : z_M) (a0 : Int) (a1 : Int) (a2 : Int) (a3 : Int) (a4 : Int) (r : z_M → Int → Int → z_O) (k : z_M → Int → z_O) : z_O := r s a3 a4
theorem gX11_shortestFor_J59 {l : Launch} {K : z_K} (hst : l.stackTraces = false) (fu : Nat) (s : z_M) (a0 : Int) (a1 : Int) (a2 : Int) (a3 : Int) (a4 : Int) (r : z_M → Int → Int → z_O) (k : z_M → Int → z_O) (hr : ∀ (s : z_M) (a3 : Int) (a4 : Int), G l K mX11_shortestFor 5 129 0 0 19 [vR a0, vI a1, vI a2, vI a3, vI a4, vU] [] s (r s a3 a4)) (hk : ∀ (s : z_M) (a3 : Int), G l K mX11_shortestFor 5 129 0 0 62 [vU, vU, vU, vI a3, vU, vU] [] s (k s a3)) : G l K mX11_shortestFor 5 129 0 0 59 [vR a0, vI a1, vI a2, vI a3, vI a4, vU] [] s (fX11_shortestFor_J59 fu s a0 a1 a2 a3 a4 r k) := by
  unfold fX11_shortestFor_J59
  refine G_goto (tgt := 19) (pc := 59) dX11_shortestFor_59 ?_
  exact hr s a3 a4
def fX11_shortestFor_L19 (fu : Nat) (a0 : Int) (a1 : Int) (a2 : Int) : Nat → z_M → Int → Int → (z_M → Int → z_O) → z_O
  | 0, _, _, _, _ => none
  | F + 1, s, a3, a4, k => if (a4 : Int) ≤ a3 then (k s a3) else (z_let (z_w (a3 + a4)) (fun x6 => if 2 ≠ 0 then z_let (z_w (Int.tdiv x6 2)) (fun x7 => if z_ob a0 11 then z_let (z_gr a0 9) (fun x8 => if z_ob x8 1 then z_bI (fX1_fewest fu s x8 x7 a2) (fun x10 s9 => if (a1 : Int) < x10 then (z_let (z_w (x7 + 1)) (fun x11 => fX11_shortestFor_J59 fu s9 a0 a1 a2 x11 a4 (fun w v3 v4 => fX11_shortestFor_L19 fu a0 a1 a2 F w v3 v4 k) k)) else (fX11_shortestFor_J59 fu s9 a0 a1 a2 a3 x7 (fun w v3 v4 => fX11_shortestFor_L19 fu a0 a1 a2 F w v3 v4 k) k)) else none) else none) else none))
theorem gX11_shortestFor_L19 {l : Launch} {K : z_K} (hst : l.stackTraces = false) (fu : Nat) (a0 : Int) (a1 : Int) (a2 : Int) (k : z_M → Int → z_O) (hk : ∀ (s : z_M) (a3 : Int), G l K mX11_shortestFor 5 129 0 0 62 [vU, vU, vU, vI a3, vU, vU] [] s (k s a3)) : ∀ (F : Nat) (s : z_M) (a3 : Int) (a4 : Int), G l K mX11_shortestFor 5 129 0 0 19 [vR a0, vI a1, vI a2, vI a3, vI a4, vU] [] s (fX11_shortestFor_L19 fu a0 a1 a2 F s a3 a4 k) := by
  intro F
  induction F with
  | zero => exact fun s a3 a4 h => absurd rfl h
  | succ F ih =>
    intro s a3 a4
    rw [fX11_shortestFor_L19]
    refine G_iload_n (x := a3) (pc := 19) dX11_shortestFor_19 rfl ?_
    refine G_iload (x := a4) (pc := 20) dX11_shortestFor_20 rfl ?_
    refine G_icmp_ge (tgt := 62) (pc := 22) dX11_shortestFor_22 ?_ ?_
    · refine G_fg (lv2 := [vU, vU, vU, vI a3, vU, vU]) ⟨Or.inl rfl, Or.inl rfl, Or.inl rfl, Or.inr rfl, Or.inl rfl, Or.inl rfl, trivial⟩ ?_
      exact hk s a3
    · refine G_iload_n (x := a3) (pc := 25) dX11_shortestFor_25 rfl ?_
      refine G_iload (x := a4) (pc := 26) dX11_shortestFor_26 rfl ?_
      refine G_iadd (pc := 28) dX11_shortestFor_28 (fun x6 => ?_)
      refine G_iconst (pc := 29) dX11_shortestFor_29 ?_
      refine G_idiv (pc := 30) dX11_shortestFor_30 (fun x7 => ?_)
      refine G_istore (lv' := [vR a0, vI a1, vI a2, vI a3, vI a4, vI x7]) (pc := 31) dX11_shortestFor_31 rfl ?_
      refine G_aload_n (x := a0) (pc := 33) dX11_shortestFor_33 rfl ?_
      refine G_getR (j := 9) (pc := 34) dX11_shortestFor_34 rfl z_CLX11 (by decide) z_wX11_78 (by decide) (fun x8 => ?_)
      refine G_iload (x := x7) (pc := 37) dX11_shortestFor_37 rfl ?_
      refine G_iload_n (x := a2) (pc := 39) dX11_shortestFor_39 rfl ?_
      refine G_callVI (as := [vI x7, vI a2]) (st := []) (c := 1) (bc2 := 0) (bs2 := 0) (pc := 40) dX11_shortestFor_40 z_mX1_fewest z_vX1_fewest z_wX11_365 (gX1_fewest hst fu s x8 x7 a2) rfl rfl (by decide) rfl rfl ⟨by decide, by decide, by decide, by decide, Nat.le_of_ble_eq_true rfl⟩ rfl (fun x10 s9 => ?_)
      refine G_iload_n (x := a1) (pc := 43) dX11_shortestFor_43 rfl ?_
      refine G_icmp_gt (tgt := 54) (pc := 44) dX11_shortestFor_44 ?_ ?_
      · refine G_iload (x := x7) (pc := 54) dX11_shortestFor_54 rfl ?_
        refine G_iconst (pc := 56) dX11_shortestFor_56 ?_
        refine G_iadd (pc := 57) dX11_shortestFor_57 (fun x11 => ?_)
        refine G_istore_n (lv' := [vR a0, vI a1, vI a2, vI x11, vI a4, vI x7]) (pc := 58) dX11_shortestFor_58 rfl ?_
        refine G_fg (lv2 := [vR a0, vI a1, vI a2, vI x11, vI a4, vU]) ⟨Or.inr rfl, Or.inr rfl, Or.inr rfl, Or.inr rfl, Or.inr rfl, Or.inl rfl, trivial⟩ ?_
        exact gX11_shortestFor_J59 hst fu s9 a0 a1 a2 x11 a4 _ _ (fun w v3 v4 => ih w v3 v4) hk
      · refine G_iload (x := x7) (pc := 47) dX11_shortestFor_47 rfl ?_
        refine G_istore (lv' := [vR a0, vI a1, vI a2, vI a3, vI x7, vI x7]) (pc := 49) dX11_shortestFor_49 rfl ?_
        refine G_goto (tgt := 59) (pc := 51) dX11_shortestFor_51 ?_
        refine G_fg (lv2 := [vR a0, vI a1, vI a2, vI a3, vI x7, vU]) ⟨Or.inr rfl, Or.inr rfl, Or.inr rfl, Or.inr rfl, Or.inr rfl, Or.inl rfl, trivial⟩ ?_
        exact gX11_shortestFor_J59 hst fu s9 a0 a1 a2 a3 x7 _ _ (fun w v3 v4 => ih w v3 v4) hk
def fX11_shortestFor (fu : Nat) (s : z_M) (a0 : Int) (a1 : Int) (a2 : Int) : z_O := z_bI (fX11_pick fu s 0 0) (fun x2 s1 => z_bI (fX11_pick fu s1 1 0) (fun x4 s3 => z_let (z_w (x4 + 1)) (fun x5 => fX11_shortestFor_L19 fu a0 a1 a2 fu s3 x2 x5 (fun s12 x13 => some (vI x13, s12)))))
theorem gX11_shortestFor {l : Launch} {K : z_K} (hst : l.stackTraces = false) (fu : Nat) (s : z_M) (a0 : Int) (a1 : Int) (a2 : Int) : z_D l K mX11_shortestFor 5 129 0 0 [vR a0, vI a1, vI a2] s (fX11_shortestFor fu s a0 a1 a2) := by
  refine z_D_of (lv := [vR a0, vI a1, vI a2, vU, vU, vU]) hst z_mX11_shortestFor rfl ?_ (Nat.le_of_ble_eq_true rfl) rfl
  unfold fX11_shortestFor
  refine G_gets (i := 0) (pc := 0) dX11_shortestFor_0 z_wX11_133 ?_
  refine G_iconst (pc := 3) dX11_shortestFor_3 ?_
  refine G_callSI (as := [vT 0, vI 0]) (st := []) (bc2 := 0) (bs2 := 0) (pc := 4) dX11_shortestFor_4 z_mX11_pick z_sX11_pick z_wX11_136 (gX11_pick hst fu s 0 0) rfl rfl ⟨by decide, by decide, by decide, by decide, Nat.le_of_ble_eq_true rfl⟩ rfl (fun x2 s1 => ?_)
  refine G_istore_n (lv' := [vR a0, vI a1, vI a2, vI x2, vU, vU]) (pc := 7) dX11_shortestFor_7 rfl ?_
  refine G_gets (i := 1) (pc := 8) dX11_shortestFor_8 z_wX11_140 ?_
  refine G_iconst (pc := 11) dX11_shortestFor_11 ?_
  refine G_callSI (as := [vT 1, vI 0]) (st := []) (bc2 := 0) (bs2 := 0) (pc := 12) dX11_shortestFor_12 z_mX11_pick z_sX11_pick z_wX11_136 (gX11_pick hst fu s1 1 0) rfl rfl ⟨by decide, by decide, by decide, by decide, Nat.le_of_ble_eq_true rfl⟩ rfl (fun x4 s3 => ?_)
  refine G_iconst (pc := 15) dX11_shortestFor_15 ?_
  refine G_iadd (pc := 16) dX11_shortestFor_16 (fun x5 => ?_)
  refine G_istore (lv' := [vR a0, vI a1, vI a2, vI x2, vI x5, vU]) (pc := 17) dX11_shortestFor_17 rfl ?_
  refine gX11_shortestFor_L19 hst fu a0 a1 a2 _ (fun s12 x13 => ?_) fu s3 x2 x5
  refine G_iload_n (x := x13) (pc := 62) dX11_shortestFor_62 rfl ?_
  exact G_iret (pc := 63) dX11_shortestFor_63
def fX11_least_J80 (fu : Nat) (s : z_M) (a0 : Int) (a1 : Int) (a2 : Int) (a3 : Int) (a4 : Int) (r : z_M → Int → z_O) (k : z_M → z_O) : z_O := z_let (z_w (a4 + 1)) (fun x14 => r s x14)
theorem gX11_least_J80 {l : Launch} {K : z_K} (hst : l.stackTraces = false) (fu : Nat) (s : z_M) (a0 : Int) (a1 : Int) (a2 : Int) (a3 : Int) (a4 : Int) (r : z_M → Int → z_O) (k : z_M → z_O) (hr : ∀ (s : z_M) (a4 : Int), G l K mX11_least 7 172 0 0 38 [vR a0, vI a1, vI a2, vI a3, vI a4] [] s (r s a4)) (hk : ∀ (s : z_M), G l K mX11_least 7 172 0 0 86 [vU, vU, vU, vU, vU] [] s (k s)) : G l K mX11_least 7 172 0 0 80 [vR a0, vI a1, vI a2, vI a3, vI a4] [] s (fX11_least_J80 fu s a0 a1 a2 a3 a4 r k) := by
  unfold fX11_least_J80
  refine G_iinc (x := a4) (g := fun x14 => [vR a0, vI a1, vI a2, vI a3, vI x14]) (pc := 80) dX11_least_80 rfl (fun _ => rfl) (fun x14 => ?_)
  refine G_goto (tgt := 38) (pc := 83) dX11_least_83 ?_
  exact hr s x14
def fX11_least_L38 (fu : Nat) (a0 : Int) (a1 : Int) (a2 : Int) (a3 : Int) : Nat → z_M → Int → (z_M → z_O) → z_O
  | 0, _, _, _ => none
  | F + 1, s, a4, k => if (a3 : Int) < a4 then (k s) else (if z_ob a0 11 then z_let (z_gr a0 9) (fun x10 => if z_ob x10 1 then z_bN (fX1_go fu s x10 a4 a2) (fun s11 => if z_ob a0 11 then z_let (z_gr a0 9) (fun x12 => if z_ob x12 1 then z_let (s11 x12 6) (fun x13 => if (a1 : Int) < x13 then (fX11_least_J80 fu s11 a0 a1 a2 a3 a4 (fun w v4 => fX11_least_L38 fu a0 a1 a2 a3 F w v4 k) k) else (if z_ob a0 11 then z_let (z_gr a0 9) (fun x15 => if z_ob x15 1 then z_bI (fX1_tooLong fu s11 x15 a4) (fun x17 s16 => if (x17 : Int) ≠ 0 then (fX11_least_J80 fu s16 a0 a1 a2 a3 a4 (fun w v4 => fX11_least_L38 fu a0 a1 a2 a3 F w v4 k) k) else (some (vI a4, s16))) else none) else none)) else none) else none) else none) else none)
theorem gX11_least_L38 {l : Launch} {K : z_K} (hst : l.stackTraces = false) (fu : Nat) (a0 : Int) (a1 : Int) (a2 : Int) (a3 : Int) (k : z_M → z_O) (hk : ∀ (s : z_M), G l K mX11_least 7 172 0 0 86 [vU, vU, vU, vU, vU] [] s (k s)) : ∀ (F : Nat) (s : z_M) (a4 : Int), G l K mX11_least 7 172 0 0 38 [vR a0, vI a1, vI a2, vI a3, vI a4] [] s (fX11_least_L38 fu a0 a1 a2 a3 F s a4 k) := by
  intro F
  induction F with
  | zero => exact fun s a4 h => absurd rfl h
  | succ F ih =>
    intro s a4
    rw [fX11_least_L38]
    refine G_iload (x := a4) (pc := 38) dX11_least_38 rfl ?_
    refine G_iload_n (x := a3) (pc := 40) dX11_least_40 rfl ?_
    refine G_icmp_gt (tgt := 86) (pc := 41) dX11_least_41 ?_ ?_
    · refine G_fg (lv2 := [vU, vU, vU, vU, vU]) ⟨Or.inl rfl, Or.inl rfl, Or.inl rfl, Or.inl rfl, Or.inl rfl, trivial⟩ ?_
      exact hk s
    · refine G_aload_n (x := a0) (pc := 44) dX11_least_44 rfl ?_
      refine G_getR (j := 9) (pc := 45) dX11_least_45 rfl z_CLX11 (by decide) z_wX11_78 (by decide) (fun x10 => ?_)
      refine G_iload (x := a4) (pc := 48) dX11_least_48 rfl ?_
      refine G_iload_n (x := a2) (pc := 50) dX11_least_50 rfl ?_
      refine G_callVN (as := [vI a4, vI a2]) (st := []) (c := 1) (bc2 := 0) (bs2 := 0) (pc := 51) dX11_least_51 z_mX1_go z_vX1_go z_wX11_296 (gX1_go hst fu s x10 a4 a2) rfl rfl (by decide) rfl rfl ⟨by decide, by decide, by decide, by decide, Nat.le_of_ble_eq_true rfl⟩ rfl (fun s11 => ?_)
      refine G_aload_n (x := a0) (pc := 54) dX11_least_54 rfl ?_
      refine G_getR (j := 9) (pc := 55) dX11_least_55 rfl z_CLX11 (by decide) z_wX11_78 (by decide) (fun x12 => ?_)
      refine G_getI (j := 6) (pc := 58) dX11_least_58 rfl z_CLX1 (by decide) z_wX11_176 (by decide) (fun x13 => ?_)
      refine G_iload_n (x := a1) (pc := 61) dX11_least_61 rfl ?_
      refine G_icmp_gt (tgt := 80) (pc := 62) dX11_least_62 ?_ ?_
      · exact gX11_least_J80 hst fu s11 a0 a1 a2 a3 a4 _ _ (fun w v4 => ih w v4) hk
      · refine G_aload_n (x := a0) (pc := 65) dX11_least_65 rfl ?_
        refine G_getR (j := 9) (pc := 66) dX11_least_66 rfl z_CLX11 (by decide) z_wX11_78 (by decide) (fun x15 => ?_)
        refine G_iload (x := a4) (pc := 69) dX11_least_69 rfl ?_
        refine G_callVI (as := [vI a4]) (st := []) (c := 1) (bc2 := 0) (bs2 := 0) (pc := 71) dX11_least_71 z_mX1_tooLong z_vX1_tooLong z_wX11_186 (gX1_tooLong hst fu s11 x15 a4) rfl rfl (by decide) rfl rfl ⟨by decide, by decide, by decide, by decide, Nat.le_of_ble_eq_true rfl⟩ rfl (fun x17 s16 => ?_)
        refine G_if_ne (tgt := 80) (pc := 74) dX11_least_74 ?_ ?_
        · exact gX11_least_J80 hst fu s16 a0 a1 a2 a3 a4 _ _ (fun w v4 => ih w v4) hk
        · refine G_iload (x := a4) (pc := 77) dX11_least_77 rfl ?_
          exact G_iret (pc := 79) dX11_least_79
def fX11_least (fu : Nat) (s : z_M) (a0 : Int) (a1 : Int) : z_O := if z_ob a0 11 then z_bN (fX11_needWithin fu s a0 a1 1 200) (fun s1 => if z_ob a0 11 then z_bN (fX11_refresh fu s1 a0) (fun s2 => if z_ob a0 11 then z_let (z_gr a0 0) (fun x3 => if z_ob x3 7 then z_bI (fX7_get fu s2 x3 3) (fun x5 s4 => z_bI (fX11_pick fu s4 1 0) (fun x7 s6 => if z_ob a0 11 then z_bI (fX11_shortestFor fu s6 a0 a1 x5) (fun x9 s8 => fX11_least_L38 fu a0 a1 x5 x7 fu s8 x9 (fun s18 => some (vI (-1), s18))) else none)) else none) else none) else none) else none
theorem gX11_least {l : Launch} {K : z_K} (hst : l.stackTraces = false) (fu : Nat) (s : z_M) (a0 : Int) (a1 : Int) : z_D l K mX11_least 7 172 1 6 [vR a0, vI a1] s (fX11_least fu s a0 a1) := by
  refine z_D_of (lv := [vR a0, vI a1, vU, vU, vU]) hst z_mX11_least rfl ?_ (Nat.le_of_ble_eq_true rfl) rfl
  unfold fX11_least
  refine G_aload_n (x := a0) (pc := 0) dX11_least_0 rfl ?_
  refine G_iload_n (x := a1) (pc := 1) dX11_least_1 rfl ?_
  refine G_iconst (pc := 2) dX11_least_2 ?_
  refine G_sipush (pc := 3) dX11_least_3 ?_
  refine G_callVN (as := [vI a1, vI 1, vI 200]) (st := []) (c := 11) (bc2 := 0) (bs2 := 0) (pc := 6) dX11_least_6 z_mX11_needWithin z_vX11_needWithin z_wX11_113 (gX11_needWithin hst fu s a0 a1 1 200) rfl rfl (by decide) rfl rfl ⟨by decide, by decide, by decide, by decide, Nat.le_of_ble_eq_true rfl⟩ rfl (fun s1 => ?_)
  refine G_aload_n (x := a0) (pc := 9) dX11_least_9 rfl ?_
  refine G_callVN (as := []) (st := []) (c := 11) (bc2 := 0) (bs2 := 0) (pc := 10) dX11_least_10 z_mX11_refresh z_vX11_refresh z_wX11_124 (gX11_refresh hst fu s1 a0) rfl rfl (by decide) rfl rfl ⟨by decide, by decide, by decide, by decide, Nat.le_of_ble_eq_true rfl⟩ rfl (fun s2 => ?_)
  refine G_aload_n (x := a0) (pc := 13) dX11_least_13 rfl ?_
  refine G_getR (j := 0) (pc := 14) dX11_least_14 rfl z_CLX11 (by decide) z_wX11_18 (by decide) (fun x3 => ?_)
  refine G_iconst (pc := 17) dX11_least_17 ?_
  refine G_callVI (as := [vI 3]) (st := []) (c := 7) (bc2 := 0) (bs2 := 0) (pc := 18) dX11_least_18 z_mX7_get z_vX7_get z_wX11_143 (gX7_get hst fu s2 x3 3) rfl rfl (by decide) rfl rfl ⟨by decide, by decide, by decide, by decide, Nat.le_of_ble_eq_true rfl⟩ rfl (fun x5 s4 => ?_)
  refine G_istore_n (lv' := [vR a0, vI a1, vI x5, vU, vU]) (pc := 21) dX11_least_21 rfl ?_
  refine G_gets (i := 1) (pc := 22) dX11_least_22 z_wX11_140 ?_
  refine G_iconst (pc := 25) dX11_least_25 ?_
  refine G_callSI (as := [vT 1, vI 0]) (st := []) (bc2 := 0) (bs2 := 0) (pc := 26) dX11_least_26 z_mX11_pick z_sX11_pick z_wX11_136 (gX11_pick hst fu s4 1 0) rfl rfl ⟨by decide, by decide, by decide, by decide, Nat.le_of_ble_eq_true rfl⟩ rfl (fun x7 s6 => ?_)
  refine G_istore_n (lv' := [vR a0, vI a1, vI x5, vI x7, vU]) (pc := 29) dX11_least_29 rfl ?_
  refine G_aload_n (x := a0) (pc := 30) dX11_least_30 rfl ?_
  refine G_iload_n (x := a1) (pc := 31) dX11_least_31 rfl ?_
  refine G_iload_n (x := x5) (pc := 32) dX11_least_32 rfl ?_
  refine G_callVI (as := [vI a1, vI x5]) (st := []) (c := 11) (bc2 := 0) (bs2 := 0) (pc := 33) dX11_least_33 z_mX11_shortestFor z_vX11_shortestFor z_wX11_299 (gX11_shortestFor hst fu s6 a0 a1 x5) rfl rfl (by decide) rfl rfl ⟨by decide, by decide, by decide, by decide, Nat.le_of_ble_eq_true rfl⟩ rfl (fun x9 s8 => ?_)
  refine G_istore (lv' := [vR a0, vI a1, vI x5, vI x7, vI x9]) (pc := 36) dX11_least_36 rfl ?_
  refine gX11_least_L38 hst fu a0 a1 x5 x7 _ (fun s18 => ?_) fu s8 x9
  refine G_iconst (pc := 86) dX11_least_86 ?_
  exact G_iret (pc := 87) dX11_least_87
def fX10_marksOf_L6 (fu : Nat) (a0 : Int) (a2 : Int) (a3 : Int) : Nat → z_M → Int → Int → (z_M → Int → z_O) → z_O
  | 0, _, _, _, _ => none
  | F + 1, s, a4, a5, k => if (a2 : Int) < a5 then (k s a4) else (if z_ob a0 10 then z_bI (fX10_markOf fu s a0 a5 a3) (fun x2 s1 => z_let (z_w (a4 + x2)) (fun x3 => z_let (z_w (a5 + 1)) (fun x4 => fX10_marksOf_L6 fu a0 a2 a3 F s1 x3 x4 k))) else none)
theorem gX10_marksOf_L6 {l : Launch} {K : z_K} (hst : l.stackTraces = false) (fu : Nat) (a0 : Int) (a2 : Int) (a3 : Int) (k : z_M → Int → z_O) (hk : ∀ (s : z_M) (a4 : Int), G l K mX10_marksOf 2 45 0 0 30 [vU, vU, vU, vU, vI a4, vU] [] s (k s a4)) : ∀ (F : Nat) (s : z_M) (a4 : Int) (a5 : Int), G l K mX10_marksOf 2 45 0 0 6 [vR a0, vU, vI a2, vI a3, vI a4, vI a5] [] s (fX10_marksOf_L6 fu a0 a2 a3 F s a4 a5 k) := by
  intro F
  induction F with
  | zero => exact fun s a4 a5 h => absurd rfl h
  | succ F ih =>
    intro s a4 a5
    rw [fX10_marksOf_L6]
    refine G_iload (x := a5) (pc := 6) dX10_marksOf_6 rfl ?_
    refine G_iload_n (x := a2) (pc := 8) dX10_marksOf_8 rfl ?_
    refine G_icmp_gt (tgt := 30) (pc := 9) dX10_marksOf_9 ?_ ?_
    · refine G_fg (lv2 := [vU, vU, vU, vU, vI a4, vU]) ⟨Or.inl rfl, Or.inl rfl, Or.inl rfl, Or.inl rfl, Or.inr rfl, Or.inl rfl, trivial⟩ ?_
      exact hk s a4
    · refine G_iload (x := a4) (pc := 12) dX10_marksOf_12 rfl ?_
      refine G_aload_n (x := a0) (pc := 14) dX10_marksOf_14 rfl ?_
      refine G_iload (x := a5) (pc := 15) dX10_marksOf_15 rfl ?_
      refine G_iload_n (x := a3) (pc := 17) dX10_marksOf_17 rfl ?_
      refine G_callVI (as := [vI a5, vI a3]) (st := [vI a4]) (c := 10) (bc2 := 0) (bs2 := 0) (pc := 18) dX10_marksOf_18 z_mX10_markOf z_vX10_markOf z_wX10_145 (gX10_markOf hst fu s a0 a5 a3) rfl rfl (by decide) rfl rfl ⟨by decide, by decide, by decide, by decide, Nat.le_of_ble_eq_true rfl⟩ rfl (fun x2 s1 => ?_)
      refine G_iadd (pc := 21) dX10_marksOf_21 (fun x3 => ?_)
      refine G_istore (lv' := [vR a0, vU, vI a2, vI a3, vI x3, vI a5]) (pc := 22) dX10_marksOf_22 rfl ?_
      refine G_iinc (x := a5) (g := fun x4 => [vR a0, vU, vI a2, vI a3, vI x3, vI x4]) (pc := 24) dX10_marksOf_24 rfl (fun _ => rfl) (fun x4 => ?_)
      refine G_goto (tgt := 6) (pc := 27) dX10_marksOf_27 ?_
      exact ih s1 x3 x4
def fX10_marksOf (fu : Nat) (s : z_M) (a0 : Int) (a1 : Int) (a2 : Int) (a3 : Int) : z_O := fX10_marksOf_L6 fu a0 a2 a3 fu s 0 a1 (fun s5 x6 => some (vI x6, s5))
theorem gX10_marksOf {l : Launch} {K : z_K} (hst : l.stackTraces = false) (fu : Nat) (s : z_M) (a0 : Int) (a1 : Int) (a2 : Int) (a3 : Int) : z_D l K mX10_marksOf 2 45 0 0 [vR a0, vI a1, vI a2, vI a3] s (fX10_marksOf fu s a0 a1 a2 a3) := by
  refine z_D_of (lv := [vR a0, vI a1, vI a2, vI a3, vU, vU]) hst z_mX10_marksOf rfl ?_ (Nat.le_of_ble_eq_true rfl) rfl
  unfold fX10_marksOf
  refine G_iconst (pc := 0) dX10_marksOf_0 ?_
  refine G_istore (lv' := [vR a0, vI a1, vI a2, vI a3, vI 0, vU]) (pc := 1) dX10_marksOf_1 rfl ?_
  refine G_iload_n (x := a1) (pc := 3) dX10_marksOf_3 rfl ?_
  refine G_istore (lv' := [vR a0, vI a1, vI a2, vI a3, vI 0, vI a1]) (pc := 4) dX10_marksOf_4 rfl ?_
  refine G_fg (lv2 := [vR a0, vU, vI a2, vI a3, vI 0, vI a1]) ⟨Or.inr rfl, Or.inl rfl, Or.inr rfl, Or.inr rfl, Or.inr rfl, Or.inr rfl, trivial⟩ ?_
  refine gX10_marksOf_L6 hst fu a0 a2 a3 _ (fun s5 x6 => ?_) fu s 0 a1
  refine G_iload (x := x6) (pc := 30) dX10_marksOf_30 rfl ?_
  exact G_iret (pc := 32) dX10_marksOf_32
def fX11_marks (fu : Nat) (s : z_M) (a0 : Int) (a1 : Int) : z_O := if z_ob a0 11 then z_bN (fX11_needWithin fu s a0 a1 0 1) (fun s1 => if z_ob a0 11 then z_bN (fX11_refresh fu s1 a0) (fun s2 => if z_ob a0 11 then z_let (z_gr a0 6) (fun x3 => if z_ob a0 11 then z_let (z_gr a0 2) (fun x4 => if z_ob x4 9 then z_let (s2 x4 6) (fun x5 => z_let (z_w (x5 - 1)) (fun x6 => if z_ob x3 10 then z_bI (fX10_marksOf fu s2 x3 0 x6 a1) (fun x8 s7 => some (vI x8, s7)) else none)) else none) else none) else none) else none) else none
theorem gX11_marks {l : Launch} {K : z_K} (hst : l.stackTraces = false) (fu : Nat) (s : z_M) (a0 : Int) (a1 : Int) : z_D l K mX11_marks 7 172 1 6 [vR a0, vI a1] s (fX11_marks fu s a0 a1) := by
  refine z_D_of (lv := [vR a0, vI a1]) hst z_mX11_marks rfl ?_ (Nat.le_of_ble_eq_true rfl) rfl
  unfold fX11_marks
  refine G_aload_n (x := a0) (pc := 0) dX11_marks_0 rfl ?_
  refine G_iload_n (x := a1) (pc := 1) dX11_marks_1 rfl ?_
  refine G_iconst (pc := 2) dX11_marks_2 ?_
  refine G_iconst (pc := 3) dX11_marks_3 ?_
  refine G_callVN (as := [vI a1, vI 0, vI 1]) (st := []) (c := 11) (bc2 := 0) (bs2 := 0) (pc := 4) dX11_marks_4 z_mX11_needWithin z_vX11_needWithin z_wX11_113 (gX11_needWithin hst fu s a0 a1 0 1) rfl rfl (by decide) rfl rfl ⟨by decide, by decide, by decide, by decide, Nat.le_of_ble_eq_true rfl⟩ rfl (fun s1 => ?_)
  refine G_aload_n (x := a0) (pc := 7) dX11_marks_7 rfl ?_
  refine G_callVN (as := []) (st := []) (c := 11) (bc2 := 0) (bs2 := 0) (pc := 8) dX11_marks_8 z_mX11_refresh z_vX11_refresh z_wX11_124 (gX11_refresh hst fu s1 a0) rfl rfl (by decide) rfl rfl ⟨by decide, by decide, by decide, by decide, Nat.le_of_ble_eq_true rfl⟩ rfl (fun s2 => ?_)
  refine G_aload_n (x := a0) (pc := 11) dX11_marks_11 rfl ?_
  refine G_getR (j := 6) (pc := 12) dX11_marks_12 rfl z_CLX11 (by decide) z_wX11_56 (by decide) (fun x3 => ?_)
  refine G_iconst (pc := 15) dX11_marks_15 ?_
  refine G_aload_n (x := a0) (pc := 16) dX11_marks_16 rfl ?_
  refine G_getR (j := 2) (pc := 17) dX11_marks_17 rfl z_CLX11 (by decide) z_wX11_28 (by decide) (fun x4 => ?_)
  refine G_getI (j := 6) (pc := 20) dX11_marks_20 rfl z_CLX9 (by decide) z_wX11_172 (by decide) (fun x5 => ?_)
  refine G_iconst (pc := 23) dX11_marks_23 ?_
  refine G_isub (pc := 24) dX11_marks_24 (fun x6 => ?_)
  refine G_iload_n (x := a1) (pc := 25) dX11_marks_25 rfl ?_
  refine G_callVI (as := [vI 0, vI x6, vI a1]) (st := []) (c := 10) (bc2 := 0) (bs2 := 0) (pc := 26) dX11_marks_26 z_mX10_marksOf z_vX10_marksOf z_wX11_302 (gX10_marksOf hst fu s2 x3 0 x6 a1) rfl rfl (by decide) rfl rfl ⟨by decide, by decide, by decide, by decide, Nat.le_of_ble_eq_true rfl⟩ rfl (fun x8 s7 => ?_)
  exact G_iret (pc := 29) dX11_marks_29
def fX11_lend_J88 (fu : Nat) (s : z_M) (a0 : Int) (a1 : Int) (a2 : Int) (a3 : Int) (a4 : Int) (r : z_M → Int → Int → Int → z_O) (k : z_M → Int → Int → z_O) : z_O := z_let (z_w (a4 + 1)) (fun x20 => r s a2 a3 x20)
theorem gX11_lend_J88 {l : Launch} {K : z_K} (hst : l.stackTraces = false) (fu : Nat) (s : z_M) (a0 : Int) (a1 : Int) (a2 : Int) (a3 : Int) (a4 : Int) (r : z_M → Int → Int → Int → z_O) (k : z_M → Int → Int → z_O) (hr : ∀ (s : z_M) (a2 : Int) (a3 : Int) (a4 : Int), G l K mX11_lend 7 172 0 0 43 [vR a0, vI a1, vI a2, vI a3, vI a4, vU] [] s (r s a2 a3 a4)) (hk : ∀ (s : z_M) (a2 : Int) (a3 : Int), G l K mX11_lend 7 172 0 0 94 [vU, vI a1, vI a2, vI a3, vU, vU] [] s (k s a2 a3)) : G l K mX11_lend 7 172 0 0 88 [vR a0, vI a1, vI a2, vI a3, vI a4, vU] [] s (fX11_lend_J88 fu s a0 a1 a2 a3 a4 r k) := by
  unfold fX11_lend_J88
  refine G_iinc (x := a4) (g := fun x20 => [vR a0, vI a1, vI a2, vI a3, vI x20, vU]) (pc := 88) dX11_lend_88 rfl (fun _ => rfl) (fun x20 => ?_)
  refine G_goto (tgt := 43) (pc := 91) dX11_lend_91 ?_
  exact hr s a2 a3 x20
def fX11_lend_L43 (fu : Nat) (a0 : Int) (a1 : Int) : Nat → z_M → Int → Int → Int → (z_M → Int → Int → z_O) → z_O
  | 0, _, _, _, _, _ => none
  | F + 1, s, a2, a3, a4, k => z_bI (fX11_pick fu s 1 2) (fun x13 s12 => if (x13 : Int) < a4 then (k s12 a2 a3) else (if z_ob a0 11 then z_let (z_gr a0 7) (fun x14 => if z_ob a0 11 then z_let (z_gr a0 6) (fun x15 => if z_ob x15 10 then z_let (s12 x15 16) (fun x16 => z_let (z_w (x16 - 1)) (fun x17 => if z_ob x14 5 then z_bI (fX5_longWith fu s12 x14 0 x17 a4) (fun x19 s18 => if (a3 : Int) ≤ x19 then (fX11_lend_J88 fu s18 a0 a1 a2 a3 a4 (fun w v2 v3 v4 => fX11_lend_L43 fu a0 a1 F w v2 v3 v4 k) k) else (fX11_lend_J88 fu s18 a0 a1 a4 x19 a4 (fun w v2 v3 v4 => fX11_lend_L43 fu a0 a1 F w v2 v3 v4 k) k)) else none)) else none) else none) else none))
theorem gX11_lend_L43 {l : Launch} {K : z_K} (hst : l.stackTraces = false) (fu : Nat) (a0 : Int) (a1 : Int) (k : z_M → Int → Int → z_O) (hk : ∀ (s : z_M) (a2 : Int) (a3 : Int), G l K mX11_lend 7 172 0 0 94 [vU, vI a1, vI a2, vI a3, vU, vU] [] s (k s a2 a3)) : ∀ (F : Nat) (s : z_M) (a2 : Int) (a3 : Int) (a4 : Int), G l K mX11_lend 7 172 0 0 43 [vR a0, vI a1, vI a2, vI a3, vI a4, vU] [] s (fX11_lend_L43 fu a0 a1 F s a2 a3 a4 k) := by
  intro F
  induction F with
  | zero => exact fun s a2 a3 a4 h => absurd rfl h
  | succ F ih =>
    intro s a2 a3 a4
    rw [fX11_lend_L43]
    refine G_iload (x := a4) (pc := 43) dX11_lend_43 rfl ?_
    refine G_gets (i := 1) (pc := 45) dX11_lend_45 z_wX11_140 ?_
    refine G_iconst (pc := 48) dX11_lend_48 ?_
    refine G_callSI (as := [vT 1, vI 2]) (st := [vI a4]) (bc2 := 0) (bs2 := 0) (pc := 49) dX11_lend_49 z_mX11_pick z_sX11_pick z_wX11_136 (gX11_pick hst fu s 1 2) rfl rfl ⟨by decide, by decide, by decide, by decide, Nat.le_of_ble_eq_true rfl⟩ rfl (fun x13 s12 => ?_)
    refine G_icmp_gt (tgt := 94) (pc := 52) dX11_lend_52 ?_ ?_
    · refine G_fg (lv2 := [vU, vI a1, vI a2, vI a3, vU, vU]) ⟨Or.inl rfl, Or.inr rfl, Or.inr rfl, Or.inr rfl, Or.inl rfl, Or.inl rfl, trivial⟩ ?_
      exact hk s12 a2 a3
    · refine G_aload_n (x := a0) (pc := 55) dX11_lend_55 rfl ?_
      refine G_getR (j := 7) (pc := 56) dX11_lend_56 rfl z_CLX11 (by decide) z_wX11_65 (by decide) (fun x14 => ?_)
      refine G_iconst (pc := 59) dX11_lend_59 ?_
      refine G_aload_n (x := a0) (pc := 60) dX11_lend_60 rfl ?_
      refine G_getR (j := 6) (pc := 61) dX11_lend_61 rfl z_CLX11 (by decide) z_wX11_56 (by decide) (fun x15 => ?_)
      refine G_getI (j := 16) (pc := 64) dX11_lend_64 rfl z_CLX10 (by decide) z_wX11_127 (by decide) (fun x16 => ?_)
      refine G_iconst (pc := 67) dX11_lend_67 ?_
      refine G_isub (pc := 68) dX11_lend_68 (fun x17 => ?_)
      refine G_iload (x := a4) (pc := 69) dX11_lend_69 rfl ?_
      refine G_callVI (as := [vI 0, vI x17, vI a4]) (st := []) (c := 5) (bc2 := 0) (bs2 := 0) (pc := 71) dX11_lend_71 z_mX5_longWith z_vX5_longWith z_wX11_315 (gX5_longWith hst fu s12 x14 0 x17 a4) rfl rfl (by decide) rfl rfl ⟨by decide, by decide, by decide, by decide, Nat.le_of_ble_eq_true rfl⟩ rfl (fun x19 s18 => ?_)
      refine G_istore (lv' := [vR a0, vI a1, vI a2, vI a3, vI a4, vI x19]) (pc := 74) dX11_lend_74 rfl ?_
      refine G_iload (x := x19) (pc := 76) dX11_lend_76 rfl ?_
      refine G_iload_n (x := a3) (pc := 78) dX11_lend_78 rfl ?_
      refine G_icmp_ge (tgt := 88) (pc := 79) dX11_lend_79 ?_ ?_
      · refine G_fg (lv2 := [vR a0, vI a1, vI a2, vI a3, vI a4, vU]) ⟨Or.inr rfl, Or.inr rfl, Or.inr rfl, Or.inr rfl, Or.inr rfl, Or.inl rfl, trivial⟩ ?_
        exact gX11_lend_J88 hst fu s18 a0 a1 a2 a3 a4 _ _ (fun w v2 v3 v4 => ih w v2 v3 v4) hk
      · refine G_iload (x := x19) (pc := 82) dX11_lend_82 rfl ?_
        refine G_istore_n (lv' := [vR a0, vI a1, vI a2, vI x19, vI a4, vI x19]) (pc := 84) dX11_lend_84 rfl ?_
        refine G_iload (x := a4) (pc := 85) dX11_lend_85 rfl ?_
        refine G_istore_n (lv' := [vR a0, vI a1, vI a4, vI x19, vI a4, vI x19]) (pc := 87) dX11_lend_87 rfl ?_
        refine G_fg (lv2 := [vR a0, vI a1, vI a4, vI x19, vI a4, vU]) ⟨Or.inr rfl, Or.inr rfl, Or.inr rfl, Or.inr rfl, Or.inr rfl, Or.inl rfl, trivial⟩ ?_
        exact gX11_lend_J88 hst fu s18 a0 a1 a4 x19 a4 _ _ (fun w v2 v3 v4 => ih w v2 v3 v4) hk
def fX11_lend_J103 (fu : Nat) (s : z_M) (t0 : Int) : z_O := some (vI t0, s)
theorem gX11_lend_J103 {l : Launch} {K : z_K} (hst : l.stackTraces = false) (fu : Nat) (s : z_M) (t0 : Int) : G l K mX11_lend 7 172 0 0 103 [vU, vU, vU, vU, vU, vU] [vI t0] s (fX11_lend_J103 fu s t0) := by
  unfold fX11_lend_J103
  exact G_iret (pc := 103) dX11_lend_103
def fX11_lend (fu : Nat) (s : z_M) (a0 : Int) (a1 : Int) : z_O := if z_ob a0 11 then z_bN (fX11_needWithin fu s a0 a1 0 1) (fun s1 => if z_ob a0 11 then z_bN (fX11_refresh fu s1 a0) (fun s2 => z_bI (fX11_pick fu s2 0 2) (fun x4 s3 => if z_ob a0 11 then z_let (z_gr a0 7) (fun x5 => if z_ob a0 11 then z_let (z_gr a0 6) (fun x6 => if z_ob x6 10 then z_let (s3 x6 16) (fun x7 => z_let (z_w (x7 - 1)) (fun x8 => if z_ob x5 5 then z_bI (fX5_longWith fu s3 x5 0 x8 x4) (fun x10 s9 => z_let (z_w (x4 + 1)) (fun x11 => fX11_lend_L43 fu a0 a1 fu s9 x4 x10 x11 (fun s21 x22 x23 => if (a1 : Int) ≠ 0 then (fX11_lend_J103 fu s21 x23) else (fX11_lend_J103 fu s21 x22)))) else none)) else none) else none) else none)) else none) else none
theorem gX11_lend {l : Launch} {K : z_K} (hst : l.stackTraces = false) (fu : Nat) (s : z_M) (a0 : Int) (a1 : Int) : z_D l K mX11_lend 7 172 1 6 [vR a0, vI a1] s (fX11_lend fu s a0 a1) := by
  refine z_D_of (lv := [vR a0, vI a1, vU, vU, vU, vU]) hst z_mX11_lend rfl ?_ (Nat.le_of_ble_eq_true rfl) rfl
  unfold fX11_lend
  refine G_aload_n (x := a0) (pc := 0) dX11_lend_0 rfl ?_
  refine G_iload_n (x := a1) (pc := 1) dX11_lend_1 rfl ?_
  refine G_iconst (pc := 2) dX11_lend_2 ?_
  refine G_iconst (pc := 3) dX11_lend_3 ?_
  refine G_callVN (as := [vI a1, vI 0, vI 1]) (st := []) (c := 11) (bc2 := 0) (bs2 := 0) (pc := 4) dX11_lend_4 z_mX11_needWithin z_vX11_needWithin z_wX11_113 (gX11_needWithin hst fu s a0 a1 0 1) rfl rfl (by decide) rfl rfl ⟨by decide, by decide, by decide, by decide, Nat.le_of_ble_eq_true rfl⟩ rfl (fun s1 => ?_)
  refine G_aload_n (x := a0) (pc := 7) dX11_lend_7 rfl ?_
  refine G_callVN (as := []) (st := []) (c := 11) (bc2 := 0) (bs2 := 0) (pc := 8) dX11_lend_8 z_mX11_refresh z_vX11_refresh z_wX11_124 (gX11_refresh hst fu s1 a0) rfl rfl (by decide) rfl rfl ⟨by decide, by decide, by decide, by decide, Nat.le_of_ble_eq_true rfl⟩ rfl (fun s2 => ?_)
  refine G_gets (i := 0) (pc := 11) dX11_lend_11 z_wX11_133 ?_
  refine G_iconst (pc := 14) dX11_lend_14 ?_
  refine G_callSI (as := [vT 0, vI 2]) (st := []) (bc2 := 0) (bs2 := 0) (pc := 15) dX11_lend_15 z_mX11_pick z_sX11_pick z_wX11_136 (gX11_pick hst fu s2 0 2) rfl rfl ⟨by decide, by decide, by decide, by decide, Nat.le_of_ble_eq_true rfl⟩ rfl (fun x4 s3 => ?_)
  refine G_istore_n (lv' := [vR a0, vI a1, vI x4, vU, vU, vU]) (pc := 18) dX11_lend_18 rfl ?_
  refine G_aload_n (x := a0) (pc := 19) dX11_lend_19 rfl ?_
  refine G_getR (j := 7) (pc := 20) dX11_lend_20 rfl z_CLX11 (by decide) z_wX11_65 (by decide) (fun x5 => ?_)
  refine G_iconst (pc := 23) dX11_lend_23 ?_
  refine G_aload_n (x := a0) (pc := 24) dX11_lend_24 rfl ?_
  refine G_getR (j := 6) (pc := 25) dX11_lend_25 rfl z_CLX11 (by decide) z_wX11_56 (by decide) (fun x6 => ?_)
  refine G_getI (j := 16) (pc := 28) dX11_lend_28 rfl z_CLX10 (by decide) z_wX11_127 (by decide) (fun x7 => ?_)
  refine G_iconst (pc := 31) dX11_lend_31 ?_
  refine G_isub (pc := 32) dX11_lend_32 (fun x8 => ?_)
  refine G_iload_n (x := x4) (pc := 33) dX11_lend_33 rfl ?_
  refine G_callVI (as := [vI 0, vI x8, vI x4]) (st := []) (c := 5) (bc2 := 0) (bs2 := 0) (pc := 34) dX11_lend_34 z_mX5_longWith z_vX5_longWith z_wX11_315 (gX5_longWith hst fu s3 x5 0 x8 x4) rfl rfl (by decide) rfl rfl ⟨by decide, by decide, by decide, by decide, Nat.le_of_ble_eq_true rfl⟩ rfl (fun x10 s9 => ?_)
  refine G_istore_n (lv' := [vR a0, vI a1, vI x4, vI x10, vU, vU]) (pc := 37) dX11_lend_37 rfl ?_
  refine G_iload_n (x := x4) (pc := 38) dX11_lend_38 rfl ?_
  refine G_iconst (pc := 39) dX11_lend_39 ?_
  refine G_iadd (pc := 40) dX11_lend_40 (fun x11 => ?_)
  refine G_istore (lv' := [vR a0, vI a1, vI x4, vI x10, vI x11, vU]) (pc := 41) dX11_lend_41 rfl ?_
  refine gX11_lend_L43 hst fu a0 a1 _ (fun s21 x22 x23 => ?_) fu s9 x4 x10 x11
  refine G_iload_n (x := a1) (pc := 94) dX11_lend_94 rfl ?_
  refine G_if_ne (tgt := 102) (pc := 95) dX11_lend_95 ?_ ?_
  · refine G_iload_n (x := x23) (pc := 102) dX11_lend_102 rfl ?_
    refine G_fg (lv2 := [vU, vU, vU, vU, vU, vU]) ⟨Or.inl rfl, Or.inl rfl, Or.inl rfl, Or.inl rfl, Or.inl rfl, Or.inl rfl, trivial⟩ ?_
    exact gX11_lend_J103 hst fu s21 x23
  · refine G_iload_n (x := x22) (pc := 98) dX11_lend_98 rfl ?_
    refine G_goto (tgt := 103) (pc := 99) dX11_lend_99 ?_
    refine G_fg (lv2 := [vU, vU, vU, vU, vU, vU]) ⟨Or.inl rfl, Or.inl rfl, Or.inl rfl, Or.inl rfl, Or.inl rfl, Or.inl rfl, trivial⟩ ?_
    exact gX11_lend_J103 hst fu s21 x22
def fX3_nearestOn_J88 (fu : Nat) (s : z_M) (a0 : Int) (a1 : Int) (a2 : Int) (a3 : Int) (a4 : Int) (a5 : Int) (r : z_M → Int → Int → Int → z_O) (k : z_M → Int → z_O) : z_O := z_let (z_w (a5 + 1)) (fun x11 => r s a3 a4 x11)
theorem gX3_nearestOn_J88 {l : Launch} {K : z_K} (hst : l.stackTraces = false) (fu : Nat) (s : z_M) (a0 : Int) (a1 : Int) (a2 : Int) (a3 : Int) (a4 : Int) (a5 : Int) (r : z_M → Int → Int → Int → z_O) (k : z_M → Int → z_O) (hr : ∀ (s : z_M) (a3 : Int) (a4 : Int) (a5 : Int), G l K mX3_nearestOn 3 69 0 0 17 [vR a0, vI a1, vI a2, vI a3, vI a4, vI a5, vU] [] s (r s a3 a4 a5)) (hk : ∀ (s : z_M) (a3 : Int), G l K mX3_nearestOn 3 69 0 0 94 [vU, vU, vU, vI a3, vU, vU, vU] [] s (k s a3)) : G l K mX3_nearestOn 3 69 0 0 88 [vR a0, vI a1, vI a2, vI a3, vI a4, vI a5, vU] [] s (fX3_nearestOn_J88 fu s a0 a1 a2 a3 a4 a5 r k) := by
  unfold fX3_nearestOn_J88
  refine G_iinc (x := a5) (g := fun x11 => [vR a0, vI a1, vI a2, vI a3, vI a4, vI x11, vU]) (pc := 88) dX3_nearestOn_88 rfl (fun _ => rfl) (fun x11 => ?_)
  refine G_goto (tgt := 17) (pc := 91) dX3_nearestOn_91 ?_
  exact hr s a3 a4 x11
def fX3_nearestOn_J72 (fu : Nat) (s : z_M) (a0 : Int) (a1 : Int) (a2 : Int) (a3 : Int) (a5 : Int) (a6 : Int) (r : z_M → Int → Int → Int → z_O) (k : z_M → Int → z_O) : z_O := z_let (z_w (a6 - 1)) (fun x12 => if z_ob a0 3 then z_bI (fX3_letterPlace fu s a0 a5 a2 x12) (fun x14 s13 => z_let (z_w (x14 + 6)) (fun x15 => fX3_nearestOn_J88 fu s13 a0 a1 a2 a3 x15 a5 (fun w v3 v4 v5 => r w v3 v4 v5) k)) else none)
theorem gX3_nearestOn_J72 {l : Launch} {K : z_K} (hst : l.stackTraces = false) (fu : Nat) (s : z_M) (a0 : Int) (a1 : Int) (a2 : Int) (a3 : Int) (a5 : Int) (a6 : Int) (r : z_M → Int → Int → Int → z_O) (k : z_M → Int → z_O) (hr : ∀ (s : z_M) (a3 : Int) (a4 : Int) (a5 : Int), G l K mX3_nearestOn 3 69 0 0 17 [vR a0, vI a1, vI a2, vI a3, vI a4, vI a5, vU] [] s (r s a3 a4 a5)) (hk : ∀ (s : z_M) (a3 : Int), G l K mX3_nearestOn 3 69 0 0 94 [vU, vU, vU, vI a3, vU, vU, vU] [] s (k s a3)) : G l K mX3_nearestOn 3 69 0 0 72 [vR a0, vI a1, vI a2, vI a3, vU, vI a5, vI a6] [] s (fX3_nearestOn_J72 fu s a0 a1 a2 a3 a5 a6 r k) := by
  unfold fX3_nearestOn_J72
  refine G_aload_n (x := a0) (pc := 72) dX3_nearestOn_72 rfl ?_
  refine G_iload (x := a5) (pc := 73) dX3_nearestOn_73 rfl ?_
  refine G_iload_n (x := a2) (pc := 75) dX3_nearestOn_75 rfl ?_
  refine G_iload (x := a6) (pc := 76) dX3_nearestOn_76 rfl ?_
  refine G_iconst (pc := 78) dX3_nearestOn_78 ?_
  refine G_isub (pc := 79) dX3_nearestOn_79 (fun x12 => ?_)
  refine G_callVI (as := [vI a5, vI a2, vI x12]) (st := []) (c := 3) (bc2 := 0) (bs2 := 0) (pc := 80) dX3_nearestOn_80 z_mX3_letterPlace z_vX3_letterPlace z_wX3_198 (gX3_letterPlace hst fu s a0 a5 a2 x12) rfl rfl (by decide) rfl rfl ⟨by decide, by decide, by decide, by decide, Nat.le_of_ble_eq_true rfl⟩ rfl (fun x14 s13 => ?_)
  refine G_bipush (pc := 83) dX3_nearestOn_83 ?_
  refine G_iadd (pc := 85) dX3_nearestOn_85 (fun x15 => ?_)
  refine G_istore (lv' := [vR a0, vI a1, vI a2, vI a3, vI x15, vI a5, vI a6]) (pc := 86) dX3_nearestOn_86 rfl ?_
  refine G_fg (lv2 := [vR a0, vI a1, vI a2, vI a3, vI x15, vI a5, vU]) ⟨Or.inr rfl, Or.inr rfl, Or.inr rfl, Or.inr rfl, Or.inr rfl, Or.inr rfl, Or.inl rfl, trivial⟩ ?_
  exact gX3_nearestOn_J88 hst fu s13 a0 a1 a2 a3 x15 a5 _ _ (fun w v3 v4 v5 => hr w v3 v4 v5) hk
def fX3_nearestOn_L17 (fu : Nat) (a0 : Int) (a1 : Int) (a2 : Int) : Nat → z_M → Int → Int → Int → (z_M → Int → z_O) → z_O
  | 0, _, _, _, _, _ => none
  | F + 1, s, a3, a4, a5, k => if z_ob a0 3 then z_let (z_gr a0 15) (fun x4 => z_let (z_w (a1 + 1)) (fun x5 => if z_ob x4 7 then z_bI (fX7_get fu s x4 x5) (fun x7 s6 => if (x7 : Int) ≤ a5 then (k s6 a3) else (if z_ob a0 3 then z_let (z_gr a0 5) (fun x8 => if z_ob x8 0 then z_bI (fX0_letters fu s6 x8 a5 a2) (fun x10 s9 => if (x10 : Int) ≤ 0 then (fX3_nearestOn_J88 fu s9 a0 a1 a2 a3 a4 a5 (fun w v3 v4 v5 => fX3_nearestOn_L17 fu a0 a1 a2 F w v3 v4 v5 k) k) else (if (a4 : Int) = 2147483647 then (fX3_nearestOn_J72 fu s9 a0 a1 a2 a3 a5 x10 (fun w v3 v4 v5 => fX3_nearestOn_L17 fu a0 a1 a2 F w v3 v4 v5 k) k) else (if z_ob a0 3 then z_bI (fX3_letterPlace fu s9 a0 a5 a2 0) (fun x17 s16 => z_let (z_w (x17 - a4)) (fun x18 => z_let (z_min a3 x18) (fun x19 => fX3_nearestOn_J72 fu s16 a0 a1 a2 x19 a5 x10 (fun w v3 v4 v5 => fX3_nearestOn_L17 fu a0 a1 a2 F w v3 v4 v5 k) k))) else none))) else none) else none)) else none)) else none
theorem gX3_nearestOn_L17 {l : Launch} {K : z_K} (hst : l.stackTraces = false) (fu : Nat) (a0 : Int) (a1 : Int) (a2 : Int) (k : z_M → Int → z_O) (hk : ∀ (s : z_M) (a3 : Int), G l K mX3_nearestOn 3 69 0 0 94 [vU, vU, vU, vI a3, vU, vU, vU] [] s (k s a3)) : ∀ (F : Nat) (s : z_M) (a3 : Int) (a4 : Int) (a5 : Int), G l K mX3_nearestOn 3 69 0 0 17 [vR a0, vI a1, vI a2, vI a3, vI a4, vI a5, vU] [] s (fX3_nearestOn_L17 fu a0 a1 a2 F s a3 a4 a5 k) := by
  intro F
  induction F with
  | zero => exact fun s a3 a4 a5 h => absurd rfl h
  | succ F ih =>
    intro s a3 a4 a5
    rw [fX3_nearestOn_L17]
    refine G_iload (x := a5) (pc := 17) dX3_nearestOn_17 rfl ?_
    refine G_aload_n (x := a0) (pc := 19) dX3_nearestOn_19 rfl ?_
    refine G_getR (j := 15) (pc := 20) dX3_nearestOn_20 rfl z_CLX3 (by decide) z_wX3_44 (by decide) (fun x4 => ?_)
    refine G_iload_n (x := a1) (pc := 23) dX3_nearestOn_23 rfl ?_
    refine G_iconst (pc := 24) dX3_nearestOn_24 ?_
    refine G_iadd (pc := 25) dX3_nearestOn_25 (fun x5 => ?_)
    refine G_callVI (as := [vI x5]) (st := [vI a5]) (c := 7) (bc2 := 0) (bs2 := 0) (pc := 26) dX3_nearestOn_26 z_mX7_get z_vX7_get z_wX3_98 (gX7_get hst fu s x4 x5) rfl rfl (by decide) rfl rfl ⟨by decide, by decide, by decide, by decide, Nat.le_of_ble_eq_true rfl⟩ rfl (fun x7 s6 => ?_)
    refine G_icmp_ge (tgt := 94) (pc := 29) dX3_nearestOn_29 ?_ ?_
    · refine G_fg (lv2 := [vU, vU, vU, vI a3, vU, vU, vU]) ⟨Or.inl rfl, Or.inl rfl, Or.inl rfl, Or.inr rfl, Or.inl rfl, Or.inl rfl, Or.inl rfl, trivial⟩ ?_
      exact hk s6 a3
    · refine G_aload_n (x := a0) (pc := 32) dX3_nearestOn_32 rfl ?_
      refine G_getR (j := 5) (pc := 33) dX3_nearestOn_33 rfl z_CLX3 (by decide) z_wX3_71 (by decide) (fun x8 => ?_)
      refine G_iload (x := a5) (pc := 36) dX3_nearestOn_36 rfl ?_
      refine G_iload_n (x := a2) (pc := 38) dX3_nearestOn_38 rfl ?_
      refine G_callVI (as := [vI a5, vI a2]) (st := []) (c := 0) (bc2 := 0) (bs2 := 0) (pc := 39) dX3_nearestOn_39 z_mX0_letters z_vX0_letters z_wX3_191 (gX0_letters hst fu s6 x8 a5 a2) rfl rfl (by decide) rfl rfl ⟨by decide, by decide, by decide, by decide, Nat.le_of_ble_eq_true rfl⟩ rfl (fun x10 s9 => ?_)
      refine G_istore (lv' := [vR a0, vI a1, vI a2, vI a3, vI a4, vI a5, vI x10]) (pc := 42) dX3_nearestOn_42 rfl ?_
      refine G_iload (x := x10) (pc := 44) dX3_nearestOn_44 rfl ?_
      refine G_if_le (tgt := 88) (pc := 46) dX3_nearestOn_46 ?_ ?_
      · refine G_fg (lv2 := [vR a0, vI a1, vI a2, vI a3, vI a4, vI a5, vU]) ⟨Or.inr rfl, Or.inr rfl, Or.inr rfl, Or.inr rfl, Or.inr rfl, Or.inr rfl, Or.inl rfl, trivial⟩ ?_
        exact gX3_nearestOn_J88 hst fu s9 a0 a1 a2 a3 a4 a5 _ _ (fun w v3 v4 v5 => ih w v3 v4 v5) hk
      · refine G_iload (x := a4) (pc := 49) dX3_nearestOn_49 rfl ?_
        refine G_ldc (pc := 51) dX3_nearestOn_51 z_wX3_197 ?_
        refine G_icmp_eq (tgt := 72) (pc := 53) dX3_nearestOn_53 ?_ ?_
        · refine G_fg (lv2 := [vR a0, vI a1, vI a2, vI a3, vU, vI a5, vI x10]) ⟨Or.inr rfl, Or.inr rfl, Or.inr rfl, Or.inr rfl, Or.inl rfl, Or.inr rfl, Or.inr rfl, trivial⟩ ?_
          exact gX3_nearestOn_J72 hst fu s9 a0 a1 a2 a3 a5 x10 _ _ (fun w v3 v4 v5 => ih w v3 v4 v5) hk
        · refine G_iload_n (x := a3) (pc := 56) dX3_nearestOn_56 rfl ?_
          refine G_aload_n (x := a0) (pc := 57) dX3_nearestOn_57 rfl ?_
          refine G_iload (x := a5) (pc := 58) dX3_nearestOn_58 rfl ?_
          refine G_iload_n (x := a2) (pc := 60) dX3_nearestOn_60 rfl ?_
          refine G_iconst (pc := 61) dX3_nearestOn_61 ?_
          refine G_callVI (as := [vI a5, vI a2, vI 0]) (st := [vI a3]) (c := 3) (bc2 := 0) (bs2 := 0) (pc := 62) dX3_nearestOn_62 z_mX3_letterPlace z_vX3_letterPlace z_wX3_198 (gX3_letterPlace hst fu s9 a0 a5 a2 0) rfl rfl (by decide) rfl rfl ⟨by decide, by decide, by decide, by decide, Nat.le_of_ble_eq_true rfl⟩ rfl (fun x17 s16 => ?_)
          refine G_iload (x := a4) (pc := 65) dX3_nearestOn_65 rfl ?_
          refine G_isub (pc := 67) dX3_nearestOn_67 (fun x18 => ?_)
          refine G_mmin (pc := 68) dX3_nearestOn_68 z_wX3_201 (fun x19 => ?_) (Nat.le_of_ble_eq_true rfl)
          refine G_istore_n (lv' := [vR a0, vI a1, vI a2, vI x19, vI a4, vI a5, vI x10]) (pc := 71) dX3_nearestOn_71 rfl ?_
          refine G_fg (lv2 := [vR a0, vI a1, vI a2, vI x19, vU, vI a5, vI x10]) ⟨Or.inr rfl, Or.inr rfl, Or.inr rfl, Or.inr rfl, Or.inl rfl, Or.inr rfl, Or.inr rfl, trivial⟩ ?_
          exact gX3_nearestOn_J72 hst fu s16 a0 a1 a2 x19 a5 x10 _ _ (fun w v3 v4 v5 => ih w v3 v4 v5) hk
def fX3_nearestOn (fu : Nat) (s : z_M) (a0 : Int) (a1 : Int) (a2 : Int) : z_O := if z_ob a0 3 then z_let (z_gr a0 15) (fun x1 => if z_ob x1 7 then z_bI (fX7_get fu s x1 a1) (fun x3 s2 => fX3_nearestOn_L17 fu a0 a1 a2 fu s2 2147483647 2147483647 x3 (fun s20 x21 => some (vI x21, s20))) else none) else none
theorem gX3_nearestOn {l : Launch} {K : z_K} (hst : l.stackTraces = false) (fu : Nat) (s : z_M) (a0 : Int) (a1 : Int) (a2 : Int) : z_D l K mX3_nearestOn 3 69 0 0 [vR a0, vI a1, vI a2] s (fX3_nearestOn fu s a0 a1 a2) := by
  refine z_D_of (lv := [vR a0, vI a1, vI a2, vU, vU, vU, vU]) hst z_mX3_nearestOn rfl ?_ (Nat.le_of_ble_eq_true rfl) rfl
  unfold fX3_nearestOn
  refine G_ldc (pc := 0) dX3_nearestOn_0 z_wX3_197 ?_
  refine G_istore_n (lv' := [vR a0, vI a1, vI a2, vI 2147483647, vU, vU, vU]) (pc := 2) dX3_nearestOn_2 rfl ?_
  refine G_ldc (pc := 3) dX3_nearestOn_3 z_wX3_197 ?_
  refine G_istore (lv' := [vR a0, vI a1, vI a2, vI 2147483647, vI 2147483647, vU, vU]) (pc := 5) dX3_nearestOn_5 rfl ?_
  refine G_aload_n (x := a0) (pc := 7) dX3_nearestOn_7 rfl ?_
  refine G_getR (j := 15) (pc := 8) dX3_nearestOn_8 rfl z_CLX3 (by decide) z_wX3_44 (by decide) (fun x1 => ?_)
  refine G_iload_n (x := a1) (pc := 11) dX3_nearestOn_11 rfl ?_
  refine G_callVI (as := [vI a1]) (st := []) (c := 7) (bc2 := 0) (bs2 := 0) (pc := 12) dX3_nearestOn_12 z_mX7_get z_vX7_get z_wX3_98 (gX7_get hst fu s x1 a1) rfl rfl (by decide) rfl rfl ⟨by decide, by decide, by decide, by decide, Nat.le_of_ble_eq_true rfl⟩ rfl (fun x3 s2 => ?_)
  refine G_istore (lv' := [vR a0, vI a1, vI a2, vI 2147483647, vI 2147483647, vI x3, vU]) (pc := 15) dX3_nearestOn_15 rfl ?_
  refine gX3_nearestOn_L17 hst fu a0 a1 a2 _ (fun s20 x21 => ?_) fu s2 2147483647 2147483647 x3
  refine G_iload_n (x := x21) (pc := 94) dX3_nearestOn_94 rfl ?_
  exact G_iret (pc := 95) dX3_nearestOn_95
def fX11_nearest_J69 (fu : Nat) (s : z_M) (a0 : Int) (a1 : Int) (a2 : Int) (a3 : Int) (a4 : Int) (r : z_M → Int → Int → Int → z_O) (k : z_M → Int → Int → z_O) : z_O := z_let (z_w (a4 + 1)) (fun x12 => r s a2 a3 x12)
theorem gX11_nearest_J69 {l : Launch} {K : z_K} (hst : l.stackTraces = false) (fu : Nat) (s : z_M) (a0 : Int) (a1 : Int) (a2 : Int) (a3 : Int) (a4 : Int) (r : z_M → Int → Int → Int → z_O) (k : z_M → Int → Int → z_O) (hr : ∀ (s : z_M) (a2 : Int) (a3 : Int) (a4 : Int), G l K mX11_nearest 7 172 0 0 20 [vR a0, vI a1, vI a2, vI a3, vI a4, vU] [] s (r s a2 a3 a4)) (hk : ∀ (s : z_M) (a2 : Int) (a3 : Int), G l K mX11_nearest 7 172 0 0 75 [vU, vI a1, vI a2, vI a3, vU, vU] [] s (k s a2 a3)) : G l K mX11_nearest 7 172 0 0 69 [vR a0, vI a1, vI a2, vI a3, vI a4, vU] [] s (fX11_nearest_J69 fu s a0 a1 a2 a3 a4 r k) := by
  unfold fX11_nearest_J69
  refine G_iinc (x := a4) (g := fun x12 => [vR a0, vI a1, vI a2, vI a3, vI x12, vU]) (pc := 69) dX11_nearest_69 rfl (fun _ => rfl) (fun x12 => ?_)
  refine G_goto (tgt := 20) (pc := 72) dX11_nearest_72 ?_
  exact hr s a2 a3 x12
def fX11_nearest_L20 (fu : Nat) (a0 : Int) (a1 : Int) : Nat → z_M → Int → Int → Int → (z_M → Int → Int → z_O) → z_O
  | 0, _, _, _, _, _ => none
  | F + 1, s, a2, a3, a4, k => if z_ob a0 11 then z_let (z_gr a0 8) (fun x3 => if z_ob x3 1 then z_let (s x3 6) (fun x4 => if (x4 : Int) ≤ a4 then (k s a2 a3) else (if z_ob a0 11 then z_let (z_gr a0 10) (fun x5 => if z_ob x5 3 then z_bI (fX3_nearestOn fu s x5 a4 0) (fun x7 s6 => if z_ob a0 11 then z_let (z_gr a0 10) (fun x8 => if z_ob x8 3 then z_bI (fX3_nearestOn fu s6 x8 a4 1) (fun x10 s9 => z_let (z_min x7 x10) (fun x11 => if (a2 : Int) ≤ x11 then (fX11_nearest_J69 fu s9 a0 a1 a2 a3 a4 (fun w v2 v3 v4 => fX11_nearest_L20 fu a0 a1 F w v2 v3 v4 k) k) else (fX11_nearest_J69 fu s9 a0 a1 x11 a4 a4 (fun w v2 v3 v4 => fX11_nearest_L20 fu a0 a1 F w v2 v3 v4 k) k))) else none) else none) else none) else none)) else none) else none
theorem gX11_nearest_L20 {l : Launch} {K : z_K} (hst : l.stackTraces = false) (fu : Nat) (a0 : Int) (a1 : Int) (k : z_M → Int → Int → z_O) (hk : ∀ (s : z_M) (a2 : Int) (a3 : Int), G l K mX11_nearest 7 172 0 0 75 [vU, vI a1, vI a2, vI a3, vU, vU] [] s (k s a2 a3)) : ∀ (F : Nat) (s : z_M) (a2 : Int) (a3 : Int) (a4 : Int), G l K mX11_nearest 7 172 0 0 20 [vR a0, vI a1, vI a2, vI a3, vI a4, vU] [] s (fX11_nearest_L20 fu a0 a1 F s a2 a3 a4 k) := by
  intro F
  induction F with
  | zero => exact fun s a2 a3 a4 h => absurd rfl h
  | succ F ih =>
    intro s a2 a3 a4
    rw [fX11_nearest_L20]
    refine G_iload (x := a4) (pc := 20) dX11_nearest_20 rfl ?_
    refine G_aload_n (x := a0) (pc := 22) dX11_nearest_22 rfl ?_
    refine G_getR (j := 8) (pc := 23) dX11_nearest_23 rfl z_CLX11 (by decide) z_wX11_74 (by decide) (fun x3 => ?_)
    refine G_getI (j := 6) (pc := 26) dX11_nearest_26 rfl z_CLX1 (by decide) z_wX11_176 (by decide) (fun x4 => ?_)
    refine G_icmp_ge (tgt := 75) (pc := 29) dX11_nearest_29 ?_ ?_
    · refine G_fg (lv2 := [vU, vI a1, vI a2, vI a3, vU, vU]) ⟨Or.inl rfl, Or.inr rfl, Or.inr rfl, Or.inr rfl, Or.inl rfl, Or.inl rfl, trivial⟩ ?_
      exact hk s a2 a3
    · refine G_aload_n (x := a0) (pc := 32) dX11_nearest_32 rfl ?_
      refine G_getR (j := 10) (pc := 33) dX11_nearest_33 rfl z_CLX11 (by decide) z_wX11_86 (by decide) (fun x5 => ?_)
      refine G_iload (x := a4) (pc := 36) dX11_nearest_36 rfl ?_
      refine G_iconst (pc := 38) dX11_nearest_38 ?_
      refine G_callVI (as := [vI a4, vI 0]) (st := []) (c := 3) (bc2 := 0) (bs2 := 0) (pc := 39) dX11_nearest_39 z_mX3_nearestOn z_vX3_nearestOn z_wX11_318 (gX3_nearestOn hst fu s x5 a4 0) rfl rfl (by decide) rfl rfl ⟨by decide, by decide, by decide, by decide, Nat.le_of_ble_eq_true rfl⟩ rfl (fun x7 s6 => ?_)
      refine G_aload_n (x := a0) (pc := 42) dX11_nearest_42 rfl ?_
      refine G_getR (j := 10) (pc := 43) dX11_nearest_43 rfl z_CLX11 (by decide) z_wX11_86 (by decide) (fun x8 => ?_)
      refine G_iload (x := a4) (pc := 46) dX11_nearest_46 rfl ?_
      refine G_iconst (pc := 48) dX11_nearest_48 ?_
      refine G_callVI (as := [vI a4, vI 1]) (st := [vI x7]) (c := 3) (bc2 := 0) (bs2 := 0) (pc := 49) dX11_nearest_49 z_mX3_nearestOn z_vX3_nearestOn z_wX11_318 (gX3_nearestOn hst fu s6 x8 a4 1) rfl rfl (by decide) rfl rfl ⟨by decide, by decide, by decide, by decide, Nat.le_of_ble_eq_true rfl⟩ rfl (fun x10 s9 => ?_)
      refine G_mmin (pc := 52) dX11_nearest_52 z_wX11_321 (fun x11 => ?_) (Nat.le_of_ble_eq_true rfl)
      refine G_istore (lv' := [vR a0, vI a1, vI a2, vI a3, vI a4, vI x11]) (pc := 55) dX11_nearest_55 rfl ?_
      refine G_iload (x := x11) (pc := 57) dX11_nearest_57 rfl ?_
      refine G_iload_n (x := a2) (pc := 59) dX11_nearest_59 rfl ?_
      refine G_icmp_ge (tgt := 69) (pc := 60) dX11_nearest_60 ?_ ?_
      · refine G_fg (lv2 := [vR a0, vI a1, vI a2, vI a3, vI a4, vU]) ⟨Or.inr rfl, Or.inr rfl, Or.inr rfl, Or.inr rfl, Or.inr rfl, Or.inl rfl, trivial⟩ ?_
        exact gX11_nearest_J69 hst fu s9 a0 a1 a2 a3 a4 _ _ (fun w v2 v3 v4 => ih w v2 v3 v4) hk
      · refine G_iload (x := x11) (pc := 63) dX11_nearest_63 rfl ?_
        refine G_istore_n (lv' := [vR a0, vI a1, vI x11, vI a3, vI a4, vI x11]) (pc := 65) dX11_nearest_65 rfl ?_
        refine G_iload (x := a4) (pc := 66) dX11_nearest_66 rfl ?_
        refine G_istore_n (lv' := [vR a0, vI a1, vI x11, vI a4, vI a4, vI x11]) (pc := 68) dX11_nearest_68 rfl ?_
        refine G_fg (lv2 := [vR a0, vI a1, vI x11, vI a4, vI a4, vU]) ⟨Or.inr rfl, Or.inr rfl, Or.inr rfl, Or.inr rfl, Or.inr rfl, Or.inl rfl, trivial⟩ ?_
        exact gX11_nearest_J69 hst fu s9 a0 a1 x11 a4 a4 _ _ (fun w v2 v3 v4 => ih w v2 v3 v4) hk
def fX11_nearest_J94 (fu : Nat) (s : z_M) (t0 : Int) : z_O := some (vI t0, s)
theorem gX11_nearest_J94 {l : Launch} {K : z_K} (hst : l.stackTraces = false) (fu : Nat) (s : z_M) (t0 : Int) : G l K mX11_nearest 7 172 0 0 94 [vU, vU, vU, vU, vU, vU] [vI t0] s (fX11_nearest_J94 fu s t0) := by
  unfold fX11_nearest_J94
  exact G_iret (pc := 94) dX11_nearest_94
def fX11_nearest (fu : Nat) (s : z_M) (a0 : Int) (a1 : Int) : z_O := if z_ob a0 11 then z_bN (fX11_needWithin fu s a0 a1 0 1) (fun s1 => if z_ob a0 11 then z_bN (fX11_refresh fu s1 a0) (fun s2 => fX11_nearest_L20 fu a0 a1 fu s2 2147483647 (-1) 0 (fun s13 x14 x15 => if (a1 : Int) ≠ 1 then (if (x15 : Int) ≠ (-1) then (fX11_nearest_J94 fu s13 x14) else (fX11_nearest_J94 fu s13 999)) else (some (vI x15, s13)))) else none) else none
theorem gX11_nearest {l : Launch} {K : z_K} (hst : l.stackTraces = false) (fu : Nat) (s : z_M) (a0 : Int) (a1 : Int) : z_D l K mX11_nearest 7 172 1 6 [vR a0, vI a1] s (fX11_nearest fu s a0 a1) := by
  refine z_D_of (lv := [vR a0, vI a1, vU, vU, vU, vU]) hst z_mX11_nearest rfl ?_ (Nat.le_of_ble_eq_true rfl) rfl
  unfold fX11_nearest
  refine G_aload_n (x := a0) (pc := 0) dX11_nearest_0 rfl ?_
  refine G_iload_n (x := a1) (pc := 1) dX11_nearest_1 rfl ?_
  refine G_iconst (pc := 2) dX11_nearest_2 ?_
  refine G_iconst (pc := 3) dX11_nearest_3 ?_
  refine G_callVN (as := [vI a1, vI 0, vI 1]) (st := []) (c := 11) (bc2 := 0) (bs2 := 0) (pc := 4) dX11_nearest_4 z_mX11_needWithin z_vX11_needWithin z_wX11_113 (gX11_needWithin hst fu s a0 a1 0 1) rfl rfl (by decide) rfl rfl ⟨by decide, by decide, by decide, by decide, Nat.le_of_ble_eq_true rfl⟩ rfl (fun s1 => ?_)
  refine G_aload_n (x := a0) (pc := 7) dX11_nearest_7 rfl ?_
  refine G_callVN (as := []) (st := []) (c := 11) (bc2 := 0) (bs2 := 0) (pc := 8) dX11_nearest_8 z_mX11_refresh z_vX11_refresh z_wX11_124 (gX11_refresh hst fu s1 a0) rfl rfl (by decide) rfl rfl ⟨by decide, by decide, by decide, by decide, Nat.le_of_ble_eq_true rfl⟩ rfl (fun s2 => ?_)
  refine G_ldcw (pc := 11) dX11_nearest_11 z_wX11_276 ?_
  refine G_istore_n (lv' := [vR a0, vI a1, vI 2147483647, vU, vU, vU]) (pc := 14) dX11_nearest_14 rfl ?_
  refine G_iconst (pc := 15) dX11_nearest_15 ?_
  refine G_istore_n (lv' := [vR a0, vI a1, vI 2147483647, vI (-1), vU, vU]) (pc := 16) dX11_nearest_16 rfl ?_
  refine G_iconst (pc := 17) dX11_nearest_17 ?_
  refine G_istore (lv' := [vR a0, vI a1, vI 2147483647, vI (-1), vI 0, vU]) (pc := 18) dX11_nearest_18 rfl ?_
  refine gX11_nearest_L20 hst fu a0 a1 _ (fun s13 x14 x15 => ?_) fu s2 2147483647 (-1) 0
  refine G_iload_n (x := a1) (pc := 75) dX11_nearest_75 rfl ?_
  refine G_iconst (pc := 76) dX11_nearest_76 ?_
  refine G_icmp_ne (tgt := 82) (pc := 77) dX11_nearest_77 ?_ ?_
  · refine G_iload_n (x := x15) (pc := 82) dX11_nearest_82 rfl ?_
    refine G_iconst (pc := 83) dX11_nearest_83 ?_
    refine G_icmp_ne (tgt := 93) (pc := 84) dX11_nearest_84 ?_ ?_
    · refine G_iload_n (x := x14) (pc := 93) dX11_nearest_93 rfl ?_
      refine G_fg (lv2 := [vU, vU, vU, vU, vU, vU]) ⟨Or.inl rfl, Or.inl rfl, Or.inl rfl, Or.inl rfl, Or.inl rfl, Or.inl rfl, trivial⟩ ?_
      exact gX11_nearest_J94 hst fu s13 x14
    · refine G_sipush (pc := 87) dX11_nearest_87 ?_
      refine G_goto (tgt := 94) (pc := 90) dX11_nearest_90 ?_
      refine G_fg (lv2 := [vU, vU, vU, vU, vU, vU]) ⟨Or.inl rfl, Or.inl rfl, Or.inl rfl, Or.inl rfl, Or.inl rfl, Or.inl rfl, trivial⟩ ?_
      exact gX11_nearest_J94 hst fu s13 999
  · refine G_iload_n (x := x15) (pc := 80) dX11_nearest_80 rfl ?_
    exact G_iret (pc := 81) dX11_nearest_81
def fX11_partner (fu : Nat) (s : z_M) (a0 : Int) (a1 : Int) : z_O := if z_ob a0 11 then z_bN (fX11_refresh fu s a0) (fun s1 => if z_ob a0 11 then z_let (z_gr a0 6) (fun x2 => if z_ob x2 10 then z_let (s1 x2 16) (fun x3 => if z_ob a0 11 then z_bN (fX11_needExisting fu s1 a0 a1 x3) (fun s4 => if z_ob a0 11 then z_let (z_gr a0 6) (fun x5 => if z_ob x5 10 then z_let (z_gr x5 9) (fun x6 => if z_ob x6 7 then z_bI (fX7_get fu s4 x6 a1) (fun x8 s7 => some (vI x8, s7)) else none) else none) else none) else none) else none) else none) else none
theorem gX11_partner {l : Launch} {K : z_K} (hst : l.stackTraces = false) (fu : Nat) (s : z_M) (a0 : Int) (a1 : Int) : z_D l K mX11_partner 7 172 1 6 [vR a0, vI a1] s (fX11_partner fu s a0 a1) := by
  refine z_D_of (lv := [vR a0, vI a1]) hst z_mX11_partner rfl ?_ (Nat.le_of_ble_eq_true rfl) rfl
  unfold fX11_partner
  refine G_aload_n (x := a0) (pc := 0) dX11_partner_0 rfl ?_
  refine G_callVN (as := []) (st := []) (c := 11) (bc2 := 1) (bs2 := 6) (pc := 1) dX11_partner_1 z_mX11_refresh z_vX11_refresh z_wX11_124 (gX11_refresh hst fu s a0) rfl rfl (by decide) rfl rfl ⟨by decide, by decide, by decide, by decide, Nat.le_of_ble_eq_true rfl⟩ rfl (fun s1 => ?_)
  refine G_aload_n (x := a0) (pc := 4) dX11_partner_4 rfl ?_
  refine G_iload_n (x := a1) (pc := 5) dX11_partner_5 rfl ?_
  refine G_aload_n (x := a0) (pc := 6) dX11_partner_6 rfl ?_
  refine G_getR (j := 6) (pc := 7) dX11_partner_7 rfl z_CLX11 (by decide) z_wX11_56 (by decide) (fun x2 => ?_)
  refine G_getI (j := 16) (pc := 10) dX11_partner_10 rfl z_CLX10 (by decide) z_wX11_127 (by decide) (fun x3 => ?_)
  refine G_callVN (as := [vI a1, vI x3]) (st := []) (c := 11) (bc2 := 0) (bs2 := 0) (pc := 13) dX11_partner_13 z_mX11_needExisting z_vX11_needExisting z_wX11_153 (gX11_needExisting hst fu s1 a0 a1 x3) rfl rfl (by decide) rfl rfl ⟨by decide, by decide, by decide, by decide, Nat.le_of_ble_eq_true rfl⟩ rfl (fun s4 => ?_)
  refine G_aload_n (x := a0) (pc := 16) dX11_partner_16 rfl ?_
  refine G_getR (j := 6) (pc := 17) dX11_partner_17 rfl z_CLX11 (by decide) z_wX11_56 (by decide) (fun x5 => ?_)
  refine G_getR (j := 9) (pc := 20) dX11_partner_20 rfl z_CLX10 (by decide) z_wX11_326 (by decide) (fun x6 => ?_)
  refine G_iload_n (x := a1) (pc := 23) dX11_partner_23 rfl ?_
  refine G_callVI (as := [vI a1]) (st := []) (c := 7) (bc2 := 0) (bs2 := 0) (pc := 24) dX11_partner_24 z_mX7_get z_vX7_get z_wX11_143 (gX7_get hst fu s4 x6 a1) rfl rfl (by decide) rfl rfl ⟨by decide, by decide, by decide, by decide, Nat.le_of_ble_eq_true rfl⟩ rfl (fun x8 s7 => ?_)
  exact G_iret (pc := 27) dX11_partner_27
def fX3_lettersBeside_L12 (fu : Nat) (a0 : Int) (a1 : Int) (a2 : Int) : Nat → z_M → Int → Int → (z_M → Int → z_O) → z_O
  | 0, _, _, _, _ => none
  | F + 1, s, a3, a4, k => if z_ob a0 3 then z_let (z_gr a0 15) (fun x4 => z_let (z_w (a1 + 1)) (fun x5 => if z_ob x4 7 then z_bI (fX7_get fu s x4 x5) (fun x7 s6 => if (x7 : Int) ≤ a4 then (k s6 a3) else (if z_ob a0 3 then z_let (z_gr a0 5) (fun x8 => if z_ob x8 0 then z_bI (fX0_letters fu s6 x8 a4 a2) (fun x10 s9 => z_let (z_w (a3 + x10)) (fun x11 => z_let (z_w (a4 + 1)) (fun x12 => fX3_lettersBeside_L12 fu a0 a1 a2 F s9 x11 x12 k))) else none) else none)) else none)) else none
theorem gX3_lettersBeside_L12 {l : Launch} {K : z_K} (hst : l.stackTraces = false) (fu : Nat) (a0 : Int) (a1 : Int) (a2 : Int) (k : z_M → Int → z_O) (hk : ∀ (s : z_M) (a3 : Int), G l K mX3_lettersBeside 2 43 0 0 46 [vU, vU, vU, vI a3, vU] [] s (k s a3)) : ∀ (F : Nat) (s : z_M) (a3 : Int) (a4 : Int), G l K mX3_lettersBeside 2 43 0 0 12 [vR a0, vI a1, vI a2, vI a3, vI a4] [] s (fX3_lettersBeside_L12 fu a0 a1 a2 F s a3 a4 k) := by
  intro F
  induction F with
  | zero => exact fun s a3 a4 h => absurd rfl h
  | succ F ih =>
    intro s a3 a4
    rw [fX3_lettersBeside_L12]
    refine G_iload (x := a4) (pc := 12) dX3_lettersBeside_12 rfl ?_
    refine G_aload_n (x := a0) (pc := 14) dX3_lettersBeside_14 rfl ?_
    refine G_getR (j := 15) (pc := 15) dX3_lettersBeside_15 rfl z_CLX3 (by decide) z_wX3_44 (by decide) (fun x4 => ?_)
    refine G_iload_n (x := a1) (pc := 18) dX3_lettersBeside_18 rfl ?_
    refine G_iconst (pc := 19) dX3_lettersBeside_19 ?_
    refine G_iadd (pc := 20) dX3_lettersBeside_20 (fun x5 => ?_)
    refine G_callVI (as := [vI x5]) (st := [vI a4]) (c := 7) (bc2 := 0) (bs2 := 0) (pc := 21) dX3_lettersBeside_21 z_mX7_get z_vX7_get z_wX3_98 (gX7_get hst fu s x4 x5) rfl rfl (by decide) rfl rfl ⟨by decide, by decide, by decide, by decide, Nat.le_of_ble_eq_true rfl⟩ rfl (fun x7 s6 => ?_)
    refine G_icmp_ge (tgt := 46) (pc := 24) dX3_lettersBeside_24 ?_ ?_
    · refine G_fg (lv2 := [vU, vU, vU, vI a3, vU]) ⟨Or.inl rfl, Or.inl rfl, Or.inl rfl, Or.inr rfl, Or.inl rfl, trivial⟩ ?_
      exact hk s6 a3
    · refine G_iload_n (x := a3) (pc := 27) dX3_lettersBeside_27 rfl ?_
      refine G_aload_n (x := a0) (pc := 28) dX3_lettersBeside_28 rfl ?_
      refine G_getR (j := 5) (pc := 29) dX3_lettersBeside_29 rfl z_CLX3 (by decide) z_wX3_71 (by decide) (fun x8 => ?_)
      refine G_iload (x := a4) (pc := 32) dX3_lettersBeside_32 rfl ?_
      refine G_iload_n (x := a2) (pc := 34) dX3_lettersBeside_34 rfl ?_
      refine G_callVI (as := [vI a4, vI a2]) (st := [vI a3]) (c := 0) (bc2 := 0) (bs2 := 0) (pc := 35) dX3_lettersBeside_35 z_mX0_letters z_vX0_letters z_wX3_191 (gX0_letters hst fu s6 x8 a4 a2) rfl rfl (by decide) rfl rfl ⟨by decide, by decide, by decide, by decide, Nat.le_of_ble_eq_true rfl⟩ rfl (fun x10 s9 => ?_)
      refine G_iadd (pc := 38) dX3_lettersBeside_38 (fun x11 => ?_)
      refine G_istore_n (lv' := [vR a0, vI a1, vI a2, vI x11, vI a4]) (pc := 39) dX3_lettersBeside_39 rfl ?_
      refine G_iinc (x := a4) (g := fun x12 => [vR a0, vI a1, vI a2, vI x11, vI x12]) (pc := 40) dX3_lettersBeside_40 rfl (fun _ => rfl) (fun x12 => ?_)
      refine G_goto (tgt := 12) (pc := 43) dX3_lettersBeside_43 ?_
      exact ih s9 x11 x12
def fX3_lettersBeside (fu : Nat) (s : z_M) (a0 : Int) (a1 : Int) (a2 : Int) : z_O := if z_ob a0 3 then z_let (z_gr a0 15) (fun x1 => if z_ob x1 7 then z_bI (fX7_get fu s x1 a1) (fun x3 s2 => fX3_lettersBeside_L12 fu a0 a1 a2 fu s2 0 x3 (fun s13 x14 => some (vI x14, s13))) else none) else none
theorem gX3_lettersBeside {l : Launch} {K : z_K} (hst : l.stackTraces = false) (fu : Nat) (s : z_M) (a0 : Int) (a1 : Int) (a2 : Int) : z_D l K mX3_lettersBeside 2 43 0 0 [vR a0, vI a1, vI a2] s (fX3_lettersBeside fu s a0 a1 a2) := by
  refine z_D_of (lv := [vR a0, vI a1, vI a2, vU, vU]) hst z_mX3_lettersBeside rfl ?_ (Nat.le_of_ble_eq_true rfl) rfl
  unfold fX3_lettersBeside
  refine G_iconst (pc := 0) dX3_lettersBeside_0 ?_
  refine G_istore_n (lv' := [vR a0, vI a1, vI a2, vI 0, vU]) (pc := 1) dX3_lettersBeside_1 rfl ?_
  refine G_aload_n (x := a0) (pc := 2) dX3_lettersBeside_2 rfl ?_
  refine G_getR (j := 15) (pc := 3) dX3_lettersBeside_3 rfl z_CLX3 (by decide) z_wX3_44 (by decide) (fun x1 => ?_)
  refine G_iload_n (x := a1) (pc := 6) dX3_lettersBeside_6 rfl ?_
  refine G_callVI (as := [vI a1]) (st := []) (c := 7) (bc2 := 0) (bs2 := 0) (pc := 7) dX3_lettersBeside_7 z_mX7_get z_vX7_get z_wX3_98 (gX7_get hst fu s x1 a1) rfl rfl (by decide) rfl rfl ⟨by decide, by decide, by decide, by decide, Nat.le_of_ble_eq_true rfl⟩ rfl (fun x3 s2 => ?_)
  refine G_istore (lv' := [vR a0, vI a1, vI a2, vI 0, vI x3]) (pc := 10) dX3_lettersBeside_10 rfl ?_
  refine gX3_lettersBeside_L12 hst fu a0 a1 a2 _ (fun s13 x14 => ?_) fu s2 0 x3
  refine G_iload_n (x := x14) (pc := 46) dX3_lettersBeside_46 rfl ?_
  exact G_iret (pc := 47) dX3_lettersBeside_47
def fX3_firstSign_J44 (fu : Nat) (s : z_M) (t0 : Int) : z_O := some (vI t0, s)
theorem gX3_firstSign_J44 {l : Launch} {K : z_K} (hst : l.stackTraces = false) (fu : Nat) (s : z_M) (t0 : Int) : G l K mX3_firstSign 1 21 0 0 44 [vU, vU, vU] [vI t0] s (fX3_firstSign_J44 fu s t0) := by
  unfold fX3_firstSign_J44
  exact G_iret (pc := 44) dX3_firstSign_44
def fX3_firstSign (fu : Nat) (s : z_M) (a0 : Int) (a1 : Int) : z_O := if z_ob a0 3 then z_let (z_gr a0 3) (fun x1 => if z_ob x1 1 then z_let (z_gr x1 5) (fun x2 => if z_ob x2 7 then z_bI (fX7_get fu s x2 a1) (fun x4 s3 => if z_ob a0 3 then z_let (z_gr a0 1) (fun x5 => if z_ob x5 10 then z_let (s3 x5 16) (fun x6 => if (x6 : Int) ≤ x4 then (if z_ob a0 3 then z_let (z_gr a0 0) (fun x7 => if z_ob x7 9 then z_let (s3 x7 6) (fun x8 => fX3_firstSign_J44 fu s3 x8) else none) else none) else (if z_ob a0 3 then z_let (z_gr a0 1) (fun x9 => if z_ob x9 10 then z_let (z_gr x9 3) (fun x10 => if z_ob x10 7 then z_bI (fX7_get fu s3 x10 x4) (fun x12 s11 => fX3_firstSign_J44 fu s11 x12) else none) else none) else none)) else none) else none) else none) else none) else none
theorem gX3_firstSign {l : Launch} {K : z_K} (hst : l.stackTraces = false) (fu : Nat) (s : z_M) (a0 : Int) (a1 : Int) : z_D l K mX3_firstSign 1 21 0 0 [vR a0, vI a1] s (fX3_firstSign fu s a0 a1) := by
  refine z_D_of (lv := [vR a0, vI a1, vU]) hst z_mX3_firstSign rfl ?_ (Nat.le_of_ble_eq_true rfl) rfl
  unfold fX3_firstSign
  refine G_aload_n (x := a0) (pc := 0) dX3_firstSign_0 rfl ?_
  refine G_getR (j := 3) (pc := 1) dX3_firstSign_1 rfl z_CLX3 (by decide) z_wX3_59 (by decide) (fun x1 => ?_)
  refine G_getR (j := 5) (pc := 4) dX3_firstSign_4 rfl z_CLX1 (by decide) z_wX3_95 (by decide) (fun x2 => ?_)
  refine G_iload_n (x := a1) (pc := 7) dX3_firstSign_7 rfl ?_
  refine G_callVI (as := [vI a1]) (st := []) (c := 7) (bc2 := 0) (bs2 := 0) (pc := 8) dX3_firstSign_8 z_mX7_get z_vX7_get z_wX3_98 (gX7_get hst fu s x2 a1) rfl rfl (by decide) rfl rfl ⟨by decide, by decide, by decide, by decide, Nat.le_of_ble_eq_true rfl⟩ rfl (fun x4 s3 => ?_)
  refine G_istore_n (lv' := [vR a0, vI a1, vI x4]) (pc := 11) dX3_firstSign_11 rfl ?_
  refine G_iload_n (x := x4) (pc := 12) dX3_firstSign_12 rfl ?_
  refine G_aload_n (x := a0) (pc := 13) dX3_firstSign_13 rfl ?_
  refine G_getR (j := 1) (pc := 14) dX3_firstSign_14 rfl z_CLX3 (by decide) z_wX3_51 (by decide) (fun x5 => ?_)
  refine G_getI (j := 16) (pc := 17) dX3_firstSign_17 rfl z_CLX10 (by decide) z_wX3_204 (by decide) (fun x6 => ?_)
  refine G_icmp_ge (tgt := 37) (pc := 20) dX3_firstSign_20 ?_ ?_
  · refine G_aload_n (x := a0) (pc := 37) dX3_firstSign_37 rfl ?_
    refine G_getR (j := 0) (pc := 38) dX3_firstSign_38 rfl z_CLX3 (by decide) z_wX3_47 (by decide) (fun x7 => ?_)
    refine G_getI (j := 6) (pc := 41) dX3_firstSign_41 rfl z_CLX9 (by decide) z_wX3_205 (by decide) (fun x8 => ?_)
    refine G_fg (lv2 := [vU, vU, vU]) ⟨Or.inl rfl, Or.inl rfl, Or.inl rfl, trivial⟩ ?_
    exact gX3_firstSign_J44 hst fu s3 x8
  · refine G_aload_n (x := a0) (pc := 23) dX3_firstSign_23 rfl ?_
    refine G_getR (j := 1) (pc := 24) dX3_firstSign_24 rfl z_CLX3 (by decide) z_wX3_51 (by decide) (fun x9 => ?_)
    refine G_getR (j := 3) (pc := 27) dX3_firstSign_27 rfl z_CLX10 (by decide) z_wX3_170 (by decide) (fun x10 => ?_)
    refine G_iload_n (x := x4) (pc := 30) dX3_firstSign_30 rfl ?_
    refine G_callVI (as := [vI x4]) (st := []) (c := 7) (bc2 := 0) (bs2 := 0) (pc := 31) dX3_firstSign_31 z_mX7_get z_vX7_get z_wX3_98 (gX7_get hst fu s3 x10 x4) rfl rfl (by decide) rfl rfl ⟨by decide, by decide, by decide, by decide, Nat.le_of_ble_eq_true rfl⟩ rfl (fun x12 s11 => ?_)
    refine G_goto (tgt := 44) (pc := 34) dX3_firstSign_34 ?_
    refine G_fg (lv2 := [vU, vU, vU]) ⟨Or.inl rfl, Or.inl rfl, Or.inl rfl, trivial⟩ ?_
    exact gX3_firstSign_J44 hst fu s11 x12
def fX3_marksBeside (fu : Nat) (s : z_M) (a0 : Int) (a1 : Int) (a2 : Int) : z_O := if z_ob a0 3 then z_let (z_gr a0 1) (fun x1 => if z_ob a0 3 then z_bI (fX3_firstSign fu s a0 a1) (fun x3 s2 => z_let (z_w (a1 + 1)) (fun x4 => if z_ob a0 3 then z_bI (fX3_firstSign fu s2 a0 x4) (fun x6 s5 => z_let (z_w (x6 - 1)) (fun x7 => if z_ob x1 10 then z_bI (fX10_marksOf fu s5 x1 x3 x7 a2) (fun x9 s8 => some (vI x9, s8)) else none)) else none)) else none) else none
theorem gX3_marksBeside {l : Launch} {K : z_K} (hst : l.stackTraces = false) (fu : Nat) (s : z_M) (a0 : Int) (a1 : Int) (a2 : Int) : z_D l K mX3_marksBeside 3 70 0 0 [vR a0, vI a1, vI a2] s (fX3_marksBeside fu s a0 a1 a2) := by
  refine z_D_of (lv := [vR a0, vI a1, vI a2]) hst z_mX3_marksBeside rfl ?_ (Nat.le_of_ble_eq_true rfl) rfl
  unfold fX3_marksBeside
  refine G_aload_n (x := a0) (pc := 0) dX3_marksBeside_0 rfl ?_
  refine G_getR (j := 1) (pc := 1) dX3_marksBeside_1 rfl z_CLX3 (by decide) z_wX3_51 (by decide) (fun x1 => ?_)
  refine G_aload_n (x := a0) (pc := 4) dX3_marksBeside_4 rfl ?_
  refine G_iload_n (x := a1) (pc := 5) dX3_marksBeside_5 rfl ?_
  refine G_callVI (as := [vI a1]) (st := [vR x1]) (c := 3) (bc2 := 0) (bs2 := 0) (pc := 6) dX3_marksBeside_6 z_mX3_firstSign z_vX3_firstSign z_wX3_206 (gX3_firstSign hst fu s a0 a1) rfl rfl (by decide) rfl rfl ⟨by decide, by decide, by decide, by decide, Nat.le_of_ble_eq_true rfl⟩ rfl (fun x3 s2 => ?_)
  refine G_aload_n (x := a0) (pc := 9) dX3_marksBeside_9 rfl ?_
  refine G_iload_n (x := a1) (pc := 10) dX3_marksBeside_10 rfl ?_
  refine G_iconst (pc := 11) dX3_marksBeside_11 ?_
  refine G_iadd (pc := 12) dX3_marksBeside_12 (fun x4 => ?_)
  refine G_callVI (as := [vI x4]) (st := [vI x3, vR x1]) (c := 3) (bc2 := 0) (bs2 := 0) (pc := 13) dX3_marksBeside_13 z_mX3_firstSign z_vX3_firstSign z_wX3_206 (gX3_firstSign hst fu s2 a0 x4) rfl rfl (by decide) rfl rfl ⟨by decide, by decide, by decide, by decide, Nat.le_of_ble_eq_true rfl⟩ rfl (fun x6 s5 => ?_)
  refine G_iconst (pc := 16) dX3_marksBeside_16 ?_
  refine G_isub (pc := 17) dX3_marksBeside_17 (fun x7 => ?_)
  refine G_iload_n (x := a2) (pc := 18) dX3_marksBeside_18 rfl ?_
  refine G_callVI (as := [vI x3, vI x7, vI a2]) (st := []) (c := 10) (bc2 := 0) (bs2 := 0) (pc := 19) dX3_marksBeside_19 z_mX10_marksOf z_vX10_marksOf z_wX3_209 (gX10_marksOf hst fu s5 x1 x3 x7 a2) rfl rfl (by decide) rfl rfl ⟨by decide, by decide, by decide, by decide, Nat.le_of_ble_eq_true rfl⟩ rfl (fun x9 s8 => ?_)
  exact G_iret (pc := 22) dX3_marksBeside_22
def fX11_side_J55 (fu : Nat) (s : z_M) (t0 : Int) : z_O := some (vI t0, s)
theorem gX11_side_J55 {l : Launch} {K : z_K} (hst : l.stackTraces = false) (fu : Nat) (s : z_M) (t0 : Int) : G l K mX11_side 7 172 0 0 55 [vU, vU, vU, vU] [vI t0] s (fX11_side_J55 fu s t0) := by
  unfold fX11_side_J55
  exact G_iret (pc := 55) dX11_side_55
def fX11_side (fu : Nat) (s : z_M) (a0 : Int) (a1 : Int) (a2 : Int) (a3 : Int) : z_O := if z_ob a0 11 then z_bN (fX11_refresh fu s a0) (fun s1 => if z_ob a0 11 then z_let (z_gr a0 8) (fun x2 => if z_ob x2 1 then z_let (s1 x2 6) (fun x3 => if z_ob a0 11 then z_bN (fX11_needExisting fu s1 a0 a1 x3) (fun s4 => if z_ob a0 11 then z_bN (fX11_needWithin fu s4 a0 a2 0 1) (fun s5 => if z_ob a0 11 then z_bN (fX11_needWithin fu s5 a0 a3 0 1) (fun s6 => if (a3 : Int) ≠ 0 then (if z_ob a0 11 then z_let (z_gr a0 10) (fun x7 => if z_ob x7 3 then z_bI (fX3_marksBeside fu s6 x7 a1 a2) (fun x9 s8 => fX11_side_J55 fu s8 x9) else none) else none) else (if z_ob a0 11 then z_let (z_gr a0 10) (fun x10 => if z_ob x10 3 then z_bI (fX3_lettersBeside fu s6 x10 a1 a2) (fun x12 s11 => fX11_side_J55 fu s11 x12) else none) else none)) else none) else none) else none) else none) else none) else none
theorem gX11_side {l : Launch} {K : z_K} (hst : l.stackTraces = false) (fu : Nat) (s : z_M) (a0 : Int) (a1 : Int) (a2 : Int) (a3 : Int) : z_D l K mX11_side 7 172 3 18 [vR a0, vI a1, vI a2, vI a3] s (fX11_side fu s a0 a1 a2 a3) := by
  refine z_D_of (lv := [vR a0, vI a1, vI a2, vI a3]) hst z_mX11_side rfl ?_ (Nat.le_of_ble_eq_true rfl) rfl
  unfold fX11_side
  refine G_aload_n (x := a0) (pc := 0) dX11_side_0 rfl ?_
  refine G_callVN (as := []) (st := []) (c := 11) (bc2 := 3) (bs2 := 18) (pc := 1) dX11_side_1 z_mX11_refresh z_vX11_refresh z_wX11_124 (gX11_refresh hst fu s a0) rfl rfl (by decide) rfl rfl ⟨by decide, by decide, by decide, by decide, Nat.le_of_ble_eq_true rfl⟩ rfl (fun s1 => ?_)
  refine G_aload_n (x := a0) (pc := 4) dX11_side_4 rfl ?_
  refine G_iload_n (x := a1) (pc := 5) dX11_side_5 rfl ?_
  refine G_aload_n (x := a0) (pc := 6) dX11_side_6 rfl ?_
  refine G_getR (j := 8) (pc := 7) dX11_side_7 rfl z_CLX11 (by decide) z_wX11_74 (by decide) (fun x2 => ?_)
  refine G_getI (j := 6) (pc := 10) dX11_side_10 rfl z_CLX1 (by decide) z_wX11_176 (by decide) (fun x3 => ?_)
  refine G_callVN (as := [vI a1, vI x3]) (st := []) (c := 11) (bc2 := 2) (bs2 := 12) (pc := 13) dX11_side_13 z_mX11_needExisting z_vX11_needExisting z_wX11_153 (gX11_needExisting hst fu s1 a0 a1 x3) rfl rfl (by decide) rfl rfl ⟨by decide, by decide, by decide, by decide, Nat.le_of_ble_eq_true rfl⟩ rfl (fun s4 => ?_)
  refine G_aload_n (x := a0) (pc := 16) dX11_side_16 rfl ?_
  refine G_iload_n (x := a2) (pc := 17) dX11_side_17 rfl ?_
  refine G_iconst (pc := 18) dX11_side_18 ?_
  refine G_iconst (pc := 19) dX11_side_19 ?_
  refine G_callVN (as := [vI a2, vI 0, vI 1]) (st := []) (c := 11) (bc2 := 1) (bs2 := 6) (pc := 20) dX11_side_20 z_mX11_needWithin z_vX11_needWithin z_wX11_113 (gX11_needWithin hst fu s4 a0 a2 0 1) rfl rfl (by decide) rfl rfl ⟨by decide, by decide, by decide, by decide, Nat.le_of_ble_eq_true rfl⟩ rfl (fun s5 => ?_)
  refine G_aload_n (x := a0) (pc := 23) dX11_side_23 rfl ?_
  refine G_iload_n (x := a3) (pc := 24) dX11_side_24 rfl ?_
  refine G_iconst (pc := 25) dX11_side_25 ?_
  refine G_iconst (pc := 26) dX11_side_26 ?_
  refine G_callVN (as := [vI a3, vI 0, vI 1]) (st := []) (c := 11) (bc2 := 0) (bs2 := 0) (pc := 27) dX11_side_27 z_mX11_needWithin z_vX11_needWithin z_wX11_113 (gX11_needWithin hst fu s5 a0 a3 0 1) rfl rfl (by decide) rfl rfl ⟨by decide, by decide, by decide, by decide, Nat.le_of_ble_eq_true rfl⟩ rfl (fun s6 => ?_)
  refine G_iload_n (x := a3) (pc := 30) dX11_side_30 rfl ?_
  refine G_if_ne (tgt := 46) (pc := 31) dX11_side_31 ?_ ?_
  · refine G_aload_n (x := a0) (pc := 46) dX11_side_46 rfl ?_
    refine G_getR (j := 10) (pc := 47) dX11_side_47 rfl z_CLX11 (by decide) z_wX11_86 (by decide) (fun x7 => ?_)
    refine G_iload_n (x := a1) (pc := 50) dX11_side_50 rfl ?_
    refine G_iload_n (x := a2) (pc := 51) dX11_side_51 rfl ?_
    refine G_callVI (as := [vI a1, vI a2]) (st := []) (c := 3) (bc2 := 0) (bs2 := 0) (pc := 52) dX11_side_52 z_mX3_marksBeside z_vX3_marksBeside z_wX11_332 (gX3_marksBeside hst fu s6 x7 a1 a2) rfl rfl (by decide) rfl rfl ⟨by decide, by decide, by decide, by decide, Nat.le_of_ble_eq_true rfl⟩ rfl (fun x9 s8 => ?_)
    refine G_fg (lv2 := [vU, vU, vU, vU]) ⟨Or.inl rfl, Or.inl rfl, Or.inl rfl, Or.inl rfl, trivial⟩ ?_
    exact gX11_side_J55 hst fu s8 x9
  · refine G_aload_n (x := a0) (pc := 34) dX11_side_34 rfl ?_
    refine G_getR (j := 10) (pc := 35) dX11_side_35 rfl z_CLX11 (by decide) z_wX11_86 (by decide) (fun x10 => ?_)
    refine G_iload_n (x := a1) (pc := 38) dX11_side_38 rfl ?_
    refine G_iload_n (x := a2) (pc := 39) dX11_side_39 rfl ?_
    refine G_callVI (as := [vI a1, vI a2]) (st := []) (c := 3) (bc2 := 0) (bs2 := 0) (pc := 40) dX11_side_40 z_mX3_lettersBeside z_vX3_lettersBeside z_wX11_329 (gX3_lettersBeside hst fu s6 x10 a1 a2) rfl rfl (by decide) rfl rfl ⟨by decide, by decide, by decide, by decide, Nat.le_of_ble_eq_true rfl⟩ rfl (fun x12 s11 => ?_)
    refine G_goto (tgt := 55) (pc := 43) dX11_side_43 ?_
    refine G_fg (lv2 := [vU, vU, vU, vU]) ⟨Or.inl rfl, Or.inl rfl, Or.inl rfl, Or.inl rfl, trivial⟩ ?_
    exact gX11_side_J55 hst fu s11 x12
def fX3_lineCount (fu : Nat) (s : z_M) (a0 : Int) : z_O := if z_ob a0 3 then z_let (z_gr a0 3) (fun x1 => if z_ob x1 1 then z_let (s x1 6) (fun x2 => some (vI x2, s)) else none) else none
theorem gX3_lineCount {l : Launch} {K : z_K} (hst : l.stackTraces = false) (fu : Nat) (s : z_M) (a0 : Int) : z_D l K mX3_lineCount 0 0 0 0 [vR a0] s (fX3_lineCount fu s a0) := by
  refine z_D_of (lv := [vR a0]) hst z_mX3_lineCount rfl ?_ (Nat.le_of_ble_eq_true rfl) rfl
  unfold fX3_lineCount
  refine G_aload_n (x := a0) (pc := 0) dX3_lineCount_0 rfl ?_
  refine G_getR (j := 3) (pc := 1) dX3_lineCount_1 rfl z_CLX3 (by decide) z_wX3_59 (by decide) (fun x1 => ?_)
  refine G_getI (j := 6) (pc := 4) dX3_lineCount_4 rfl z_CLX1 (by decide) z_wX3_78 (by decide) (fun x2 => ?_)
  exact G_iret (pc := 7) dX3_lineCount_7
def fX8_outerOn_J28 (fu : Nat) (s : z_M) (t0 : Int) : z_O := some (vI t0, s)
theorem gX8_outerOn_J28 {l : Launch} {K : z_K} (hst : l.stackTraces = false) (fu : Nat) (s : z_M) (t0 : Int) : G l K mX8_outerOn 4 92 0 0 28 [vU, vU, vU] [vI t0] s (fX8_outerOn_J28 fu s t0) := by
  unfold fX8_outerOn_J28
  exact G_iret (pc := 28) dX8_outerOn_28
def fX8_outerOn (fu : Nat) (s : z_M) (a0 : Int) (a1 : Int) (a2 : Int) : z_O := if z_ob a0 8 then z_let (z_gr a0 0) (fun x1 => if z_ob x1 3 then z_bI (fX3_lettersBeside fu s x1 a1 a2) (fun x3 s2 => if z_ob a0 8 then z_let (z_gr a0 0) (fun x4 => if z_ob x4 3 then z_bI (fX3_marksBeside fu s2 x4 a1 a2) (fun x6 s5 => z_let (z_w (x3 + x6)) (fun x7 => if (x7 : Int) ≤ 0 then (fX8_outerOn_J28 fu s5 0) else (fX8_outerOn_J28 fu s5 6))) else none) else none) else none) else none
theorem gX8_outerOn {l : Launch} {K : z_K} (hst : l.stackTraces = false) (fu : Nat) (s : z_M) (a0 : Int) (a1 : Int) (a2 : Int) : z_D l K mX8_outerOn 4 92 0 0 [vR a0, vI a1, vI a2] s (fX8_outerOn fu s a0 a1 a2) := by
  refine z_D_of (lv := [vR a0, vI a1, vI a2]) hst z_mX8_outerOn rfl ?_ (Nat.le_of_ble_eq_true rfl) rfl
  unfold fX8_outerOn
  refine G_aload_n (x := a0) (pc := 0) dX8_outerOn_0 rfl ?_
  refine G_getR (j := 0) (pc := 1) dX8_outerOn_1 rfl z_CLX8 (by decide) z_wX8_35 (by decide) (fun x1 => ?_)
  refine G_iload_n (x := a1) (pc := 4) dX8_outerOn_4 rfl ?_
  refine G_iload_n (x := a2) (pc := 5) dX8_outerOn_5 rfl ?_
  refine G_callVI (as := [vI a1, vI a2]) (st := []) (c := 3) (bc2 := 0) (bs2 := 0) (pc := 6) dX8_outerOn_6 z_mX3_lettersBeside z_vX3_lettersBeside z_wX8_78 (gX3_lettersBeside hst fu s x1 a1 a2) rfl rfl (by decide) rfl rfl ⟨by decide, by decide, by decide, by decide, Nat.le_of_ble_eq_true rfl⟩ rfl (fun x3 s2 => ?_)
  refine G_aload_n (x := a0) (pc := 9) dX8_outerOn_9 rfl ?_
  refine G_getR (j := 0) (pc := 10) dX8_outerOn_10 rfl z_CLX8 (by decide) z_wX8_35 (by decide) (fun x4 => ?_)
  refine G_iload_n (x := a1) (pc := 13) dX8_outerOn_13 rfl ?_
  refine G_iload_n (x := a2) (pc := 14) dX8_outerOn_14 rfl ?_
  refine G_callVI (as := [vI a1, vI a2]) (st := [vI x3]) (c := 3) (bc2 := 0) (bs2 := 0) (pc := 15) dX8_outerOn_15 z_mX3_marksBeside z_vX3_marksBeside z_wX8_81 (gX3_marksBeside hst fu s2 x4 a1 a2) rfl rfl (by decide) rfl rfl ⟨by decide, by decide, by decide, by decide, Nat.le_of_ble_eq_true rfl⟩ rfl (fun x6 s5 => ?_)
  refine G_iadd (pc := 18) dX8_outerOn_18 (fun x7 => ?_)
  refine G_if_le (tgt := 27) (pc := 19) dX8_outerOn_19 ?_ ?_
  · refine G_iconst (pc := 27) dX8_outerOn_27 ?_
    refine G_fg (lv2 := [vU, vU, vU]) ⟨Or.inl rfl, Or.inl rfl, Or.inl rfl, trivial⟩ ?_
    exact gX8_outerOn_J28 hst fu s5 0
  · refine G_bipush (pc := 22) dX8_outerOn_22 ?_
    refine G_goto (tgt := 28) (pc := 24) dX8_outerOn_24 ?_
    refine G_fg (lv2 := [vU, vU, vU]) ⟨Or.inl rfl, Or.inl rfl, Or.inl rfl, trivial⟩ ?_
    exact gX8_outerOn_J28 hst fu s5 6
def fX8_span_J56 (fu : Nat) (s : z_M) (a0 : Int) (a1 : Int) (a2 : Int) (a3 : Int) (a4 : Int) (r : z_M → Int → z_O) (k : z_M → z_O) : z_O := z_let (z_w (a4 + 1)) (fun x7 => r s x7)
theorem gX8_span_J56 {l : Launch} {K : z_K} (hst : l.stackTraces = false) (fu : Nat) (s : z_M) (a0 : Int) (a1 : Int) (a2 : Int) (a3 : Int) (a4 : Int) (r : z_M → Int → z_O) (k : z_M → z_O) (hr : ∀ (s : z_M) (a4 : Int), G l K mX8_span 1 22 0 0 3 [vR a0, vI a1, vI a2, vI a3, vI a4] [] s (r s a4)) (hk : ∀ (s : z_M), G l K mX8_span 1 22 0 0 62 [vU, vU, vU, vU, vU] [] s (k s)) : G l K mX8_span 1 22 0 0 56 [vR a0, vI a1, vI a2, vI a3, vI a4] [] s (fX8_span_J56 fu s a0 a1 a2 a3 a4 r k) := by
  unfold fX8_span_J56
  refine G_iinc (x := a4) (g := fun x7 => [vR a0, vI a1, vI a2, vI a3, vI x7]) (pc := 56) dX8_span_56 rfl (fun _ => rfl) (fun x7 => ?_)
  refine G_goto (tgt := 3) (pc := 59) dX8_span_59 ?_
  exact hr s x7
def fX8_span_L3 (fu : Nat) (a0 : Int) (a1 : Int) (a2 : Int) (a3 : Int) : Nat → z_M → Int → (z_M → z_O) → z_O
  | 0, _, _, _ => none
  | F + 1, s, a4, k => z_let (z_w (a1 + a2)) (fun x1 => if (x1 : Int) ≤ a4 then (k s) else (if (a3 : Int) = 0 then (if z_ob a0 8 then z_let (z_gr a0 3) (fun x2 => z_let (z_w (a4 + 100)) (fun x3 => if z_ob x2 7 then z_bI (fX7_get fu s x2 x3) (fun x5 s4 => if z_ob a0 8 then z_let (s4 a0 9) (fun x6 => if (x5 : Int) ≠ x6 then (fX8_span_J56 fu s4 a0 a1 a2 a3 a4 (fun w v4 => fX8_span_L3 fu a0 a1 a2 a3 F w v4 k) k) else (some (vI a4, s4))) else none) else none)) else none) else (if z_ob a0 8 then z_let (z_gr a0 3) (fun x8 => z_let (z_w (a4 + 100)) (fun x9 => if z_ob a0 8 then z_let (s a0 9) (fun x10 => if z_ob x8 7 then z_bN (fX7_put fu s x8 x9 x10) (fun s11 => fX8_span_J56 fu s11 a0 a1 a2 a3 a4 (fun w v4 => fX8_span_L3 fu a0 a1 a2 a3 F w v4 k) k) else none) else none)) else none)))
theorem gX8_span_L3 {l : Launch} {K : z_K} (hst : l.stackTraces = false) (fu : Nat) (a0 : Int) (a1 : Int) (a2 : Int) (a3 : Int) (k : z_M → z_O) (hk : ∀ (s : z_M), G l K mX8_span 1 22 0 0 62 [vU, vU, vU, vU, vU] [] s (k s)) : ∀ (F : Nat) (s : z_M) (a4 : Int), G l K mX8_span 1 22 0 0 3 [vR a0, vI a1, vI a2, vI a3, vI a4] [] s (fX8_span_L3 fu a0 a1 a2 a3 F s a4 k) := by
  intro F
  induction F with
  | zero => exact fun s a4 h => absurd rfl h
  | succ F ih =>
    intro s a4
    rw [fX8_span_L3]
    refine G_iload (x := a4) (pc := 3) dX8_span_3 rfl ?_
    refine G_iload_n (x := a1) (pc := 5) dX8_span_5 rfl ?_
    refine G_iload_n (x := a2) (pc := 6) dX8_span_6 rfl ?_
    refine G_iadd (pc := 7) dX8_span_7 (fun x1 => ?_)
    refine G_icmp_ge (tgt := 62) (pc := 8) dX8_span_8 ?_ ?_
    · refine G_fg (lv2 := [vU, vU, vU, vU, vU]) ⟨Or.inl rfl, Or.inl rfl, Or.inl rfl, Or.inl rfl, Or.inl rfl, trivial⟩ ?_
      exact hk s
    · refine G_iload_n (x := a3) (pc := 11) dX8_span_11 rfl ?_
      refine G_if_eq (tgt := 34) (pc := 12) dX8_span_12 ?_ ?_
      · refine G_aload_n (x := a0) (pc := 34) dX8_span_34 rfl ?_
        refine G_getR (j := 3) (pc := 35) dX8_span_35 rfl z_CLX8 (by decide) z_wX8_16 (by decide) (fun x2 => ?_)
        refine G_iload (x := a4) (pc := 38) dX8_span_38 rfl ?_
        refine G_bipush (pc := 40) dX8_span_40 ?_
        refine G_iadd (pc := 42) dX8_span_42 (fun x3 => ?_)
        refine G_callVI (as := [vI x3]) (st := []) (c := 7) (bc2 := 0) (bs2 := 0) (pc := 43) dX8_span_43 z_mX7_get z_vX7_get z_wX8_69 (gX7_get hst fu s x2 x3) rfl rfl (by decide) rfl rfl ⟨by decide, by decide, by decide, by decide, Nat.le_of_ble_eq_true rfl⟩ rfl (fun x5 s4 => ?_)
        refine G_aload_n (x := a0) (pc := 46) dX8_span_46 rfl ?_
        refine G_getI (j := 9) (pc := 47) dX8_span_47 rfl z_CLX8 (by decide) z_wX8_60 (by decide) (fun x6 => ?_)
        refine G_icmp_ne (tgt := 56) (pc := 50) dX8_span_50 ?_ ?_
        · exact gX8_span_J56 hst fu s4 a0 a1 a2 a3 a4 _ _ (fun w v4 => ih w v4) hk
        · refine G_iload (x := a4) (pc := 53) dX8_span_53 rfl ?_
          exact G_iret (pc := 55) dX8_span_55
      · refine G_aload_n (x := a0) (pc := 15) dX8_span_15 rfl ?_
        refine G_getR (j := 3) (pc := 16) dX8_span_16 rfl z_CLX8 (by decide) z_wX8_16 (by decide) (fun x8 => ?_)
        refine G_iload (x := a4) (pc := 19) dX8_span_19 rfl ?_
        refine G_bipush (pc := 21) dX8_span_21 ?_
        refine G_iadd (pc := 23) dX8_span_23 (fun x9 => ?_)
        refine G_aload_n (x := a0) (pc := 24) dX8_span_24 rfl ?_
        refine G_getI (j := 9) (pc := 25) dX8_span_25 rfl z_CLX8 (by decide) z_wX8_60 (by decide) (fun x10 => ?_)
        refine G_callVN (as := [vI x9, vI x10]) (st := []) (c := 7) (bc2 := 0) (bs2 := 0) (pc := 28) dX8_span_28 z_mX7_put z_vX7_put z_wX8_56 (gX7_put hst fu s x8 x9 x10) rfl rfl (by decide) rfl rfl ⟨by decide, by decide, by decide, by decide, Nat.le_of_ble_eq_true rfl⟩ rfl (fun s11 => ?_)
        refine G_goto (tgt := 56) (pc := 31) dX8_span_31 ?_
        exact gX8_span_J56 hst fu s11 a0 a1 a2 a3 a4 _ _ (fun w v4 => ih w v4) hk
def fX8_span (fu : Nat) (s : z_M) (a0 : Int) (a1 : Int) (a2 : Int) (a3 : Int) : z_O := fX8_span_L3 fu a0 a1 a2 a3 fu s a1 (fun s12 => some (vI 2147483647, s12))
theorem gX8_span {l : Launch} {K : z_K} (hst : l.stackTraces = false) (fu : Nat) (s : z_M) (a0 : Int) (a1 : Int) (a2 : Int) (a3 : Int) : z_D l K mX8_span 1 22 0 0 [vR a0, vI a1, vI a2, vI a3] s (fX8_span fu s a0 a1 a2 a3) := by
  refine z_D_of (lv := [vR a0, vI a1, vI a2, vI a3, vU]) hst z_mX8_span rfl ?_ (Nat.le_of_ble_eq_true rfl) rfl
  unfold fX8_span
  refine G_iload_n (x := a1) (pc := 0) dX8_span_0 rfl ?_
  refine G_istore (lv' := [vR a0, vI a1, vI a2, vI a3, vI a1]) (pc := 1) dX8_span_1 rfl ?_
  refine gX8_span_L3 hst fu a0 a1 a2 a3 _ (fun s12 => ?_) fu s a1
  refine G_ldc (pc := 62) dX8_span_62 z_wX8_68 ?_
  exact G_iret (pc := 64) dX8_span_64
def fX8_visit_L38 (fu : Nat) (a0 : Int) (a1 : Int) (a2 : Int) (a3 : Int) (a5 : Int) : Nat → z_M → Int → Int → (z_M → Int → z_O) → z_O
  | 0, _, _, _, _ => none
  | F + 1, s, a4, a6, k => if z_ob a0 8 then z_let (z_gr a0 0) (fun x10 => if z_ob x10 3 then z_let (z_gr x10 5) (fun x11 => if z_ob x11 0 then z_bI (fX0_letters fu s x11 a5 a2) (fun x13 s12 => if (x13 : Int) ≤ a6 then (k s12 a4) else (if z_ob a0 8 then z_let (z_gr a0 0) (fun x14 => if z_ob x14 3 then z_bI (fX3_letterPlace fu s12 x14 a5 a2 a6) (fun x16 s15 => if z_ob a0 8 then z_bI (fX8_span fu s15 a0 x16 6 a3) (fun x18 s17 => z_let (z_min a4 x18) (fun x19 => z_let (z_w (a6 + 1)) (fun x20 => fX8_visit_L38 fu a0 a1 a2 a3 a5 F s17 x19 x20 k))) else none) else none) else none)) else none) else none) else none
theorem gX8_visit_L38 {l : Launch} {K : z_K} (hst : l.stackTraces = false) (fu : Nat) (a0 : Int) (a1 : Int) (a2 : Int) (a3 : Int) (a5 : Int) (k : z_M → Int → z_O) (hk : ∀ (s : z_M) (a4 : Int), G l K mX8_visit 3 69 0 0 92 [vR a0, vI a1, vI a2, vI a3, vI a4, vI a5, vU, vU] [] s (k s a4)) : ∀ (F : Nat) (s : z_M) (a4 : Int) (a6 : Int), G l K mX8_visit 3 69 0 0 38 [vR a0, vI a1, vI a2, vI a3, vI a4, vI a5, vI a6, vU] [] s (fX8_visit_L38 fu a0 a1 a2 a3 a5 F s a4 a6 k) := by
  intro F
  induction F with
  | zero => exact fun s a4 a6 h => absurd rfl h
  | succ F ih =>
    intro s a4 a6
    rw [fX8_visit_L38]
    refine G_iload (x := a6) (pc := 38) dX8_visit_38 rfl ?_
    refine G_aload_n (x := a0) (pc := 40) dX8_visit_40 rfl ?_
    refine G_getR (j := 0) (pc := 41) dX8_visit_41 rfl z_CLX8 (by decide) z_wX8_35 (by decide) (fun x10 => ?_)
    refine G_getR (j := 5) (pc := 44) dX8_visit_44 rfl z_CLX3 (by decide) z_wX8_87 (by decide) (fun x11 => ?_)
    refine G_iload (x := a5) (pc := 47) dX8_visit_47 rfl ?_
    refine G_iload_n (x := a2) (pc := 49) dX8_visit_49 rfl ?_
    refine G_callVI (as := [vI a5, vI a2]) (st := [vI a6]) (c := 0) (bc2 := 0) (bs2 := 0) (pc := 50) dX8_visit_50 z_mX0_letters z_vX0_letters z_wX8_91 (gX0_letters hst fu s x11 a5 a2) rfl rfl (by decide) rfl rfl ⟨by decide, by decide, by decide, by decide, Nat.le_of_ble_eq_true rfl⟩ rfl (fun x13 s12 => ?_)
    refine G_icmp_ge (tgt := 92) (pc := 53) dX8_visit_53 ?_ ?_
    · refine G_fg (lv2 := [vR a0, vI a1, vI a2, vI a3, vI a4, vI a5, vU, vU]) ⟨Or.inr rfl, Or.inr rfl, Or.inr rfl, Or.inr rfl, Or.inr rfl, Or.inr rfl, Or.inl rfl, Or.inl rfl, trivial⟩ ?_
      exact hk s12 a4
    · refine G_aload_n (x := a0) (pc := 56) dX8_visit_56 rfl ?_
      refine G_getR (j := 0) (pc := 57) dX8_visit_57 rfl z_CLX8 (by decide) z_wX8_35 (by decide) (fun x14 => ?_)
      refine G_iload (x := a5) (pc := 60) dX8_visit_60 rfl ?_
      refine G_iload_n (x := a2) (pc := 62) dX8_visit_62 rfl ?_
      refine G_iload (x := a6) (pc := 63) dX8_visit_63 rfl ?_
      refine G_callVI (as := [vI a5, vI a2, vI a6]) (st := []) (c := 3) (bc2 := 0) (bs2 := 0) (pc := 65) dX8_visit_65 z_mX3_letterPlace z_vX3_letterPlace z_wX8_96 (gX3_letterPlace hst fu s12 x14 a5 a2 a6) rfl rfl (by decide) rfl rfl ⟨by decide, by decide, by decide, by decide, Nat.le_of_ble_eq_true rfl⟩ rfl (fun x16 s15 => ?_)
      refine G_istore (lv' := [vR a0, vI a1, vI a2, vI a3, vI a4, vI a5, vI a6, vI x16]) (pc := 68) dX8_visit_68 rfl ?_
      refine G_iload (x := a4) (pc := 70) dX8_visit_70 rfl ?_
      refine G_aload_n (x := a0) (pc := 72) dX8_visit_72 rfl ?_
      refine G_iload (x := x16) (pc := 73) dX8_visit_73 rfl ?_
      refine G_bipush (pc := 75) dX8_visit_75 ?_
      refine G_iload_n (x := a3) (pc := 77) dX8_visit_77 rfl ?_
      refine G_callVI (as := [vI x16, vI 6, vI a3]) (st := [vI a4]) (c := 8) (bc2 := 0) (bs2 := 0) (pc := 78) dX8_visit_78 z_mX8_span z_vX8_span z_wX8_100 (gX8_span hst fu s15 a0 x16 6 a3) rfl rfl (by decide) rfl rfl ⟨by decide, by decide, by decide, by decide, Nat.le_of_ble_eq_true rfl⟩ rfl (fun x18 s17 => ?_)
      refine G_mmin (pc := 81) dX8_visit_81 z_wX8_103 (fun x19 => ?_) (Nat.le_of_ble_eq_true rfl)
      refine G_istore (lv' := [vR a0, vI a1, vI a2, vI a3, vI x19, vI a5, vI a6, vI x16]) (pc := 84) dX8_visit_84 rfl ?_
      refine G_iinc (x := a6) (g := fun x20 => [vR a0, vI a1, vI a2, vI a3, vI x19, vI a5, vI x20, vI x16]) (pc := 86) dX8_visit_86 rfl (fun _ => rfl) (fun x20 => ?_)
      refine G_goto (tgt := 38) (pc := 89) dX8_visit_89 ?_
      refine G_fg (lv2 := [vR a0, vI a1, vI a2, vI a3, vI x19, vI a5, vI x20, vU]) ⟨Or.inr rfl, Or.inr rfl, Or.inr rfl, Or.inr rfl, Or.inr rfl, Or.inr rfl, Or.inr rfl, Or.inl rfl, trivial⟩ ?_
      exact ih s17 x19 x20
def fX8_visit_L17 (fu : Nat) (a0 : Int) (a1 : Int) (a2 : Int) (a3 : Int) : Nat → z_M → Int → Int → (z_M → Int → z_O) → z_O
  | 0, _, _, _, _ => none
  | F + 1, s, a4, a5, k => if z_ob a0 8 then z_let (z_gr a0 0) (fun x5 => if z_ob x5 3 then z_let (z_gr x5 15) (fun x6 => z_let (z_w (a1 + 1)) (fun x7 => if z_ob x6 7 then z_bI (fX7_get fu s x6 x7) (fun x9 s8 => if (x9 : Int) ≤ a5 then (k s8 a4) else (fX8_visit_L38 fu a0 a1 a2 a3 a5 fu s8 a4 0 (fun s21 x22 => z_let (z_w (a5 + 1)) (fun x23 => fX8_visit_L17 fu a0 a1 a2 a3 F s21 x22 x23 k)))) else none)) else none) else none
theorem gX8_visit_L17 {l : Launch} {K : z_K} (hst : l.stackTraces = false) (fu : Nat) (a0 : Int) (a1 : Int) (a2 : Int) (a3 : Int) (k : z_M → Int → z_O) (hk : ∀ (s : z_M) (a4 : Int), G l K mX8_visit 3 69 0 0 98 [vR a0, vI a1, vI a2, vI a3, vI a4, vU, vU, vU] [] s (k s a4)) : ∀ (F : Nat) (s : z_M) (a4 : Int) (a5 : Int), G l K mX8_visit 3 69 0 0 17 [vR a0, vI a1, vI a2, vI a3, vI a4, vI a5, vU, vU] [] s (fX8_visit_L17 fu a0 a1 a2 a3 F s a4 a5 k) := by
  intro F
  induction F with
  | zero => exact fun s a4 a5 h => absurd rfl h
  | succ F ih =>
    intro s a4 a5
    rw [fX8_visit_L17]
    refine G_iload (x := a5) (pc := 17) dX8_visit_17 rfl ?_
    refine G_aload_n (x := a0) (pc := 19) dX8_visit_19 rfl ?_
    refine G_getR (j := 0) (pc := 20) dX8_visit_20 rfl z_CLX8 (by decide) z_wX8_35 (by decide) (fun x5 => ?_)
    refine G_getR (j := 15) (pc := 23) dX8_visit_23 rfl z_CLX3 (by decide) z_wX8_84 (by decide) (fun x6 => ?_)
    refine G_iload_n (x := a1) (pc := 26) dX8_visit_26 rfl ?_
    refine G_iconst (pc := 27) dX8_visit_27 ?_
    refine G_iadd (pc := 28) dX8_visit_28 (fun x7 => ?_)
    refine G_callVI (as := [vI x7]) (st := [vI a5]) (c := 7) (bc2 := 0) (bs2 := 0) (pc := 29) dX8_visit_29 z_mX7_get z_vX7_get z_wX8_69 (gX7_get hst fu s x6 x7) rfl rfl (by decide) rfl rfl ⟨by decide, by decide, by decide, by decide, Nat.le_of_ble_eq_true rfl⟩ rfl (fun x9 s8 => ?_)
    refine G_icmp_ge (tgt := 98) (pc := 32) dX8_visit_32 ?_ ?_
    · refine G_fg (lv2 := [vR a0, vI a1, vI a2, vI a3, vI a4, vU, vU, vU]) ⟨Or.inr rfl, Or.inr rfl, Or.inr rfl, Or.inr rfl, Or.inr rfl, Or.inl rfl, Or.inl rfl, Or.inl rfl, trivial⟩ ?_
      exact hk s8 a4
    · refine G_iconst (pc := 35) dX8_visit_35 ?_
      refine G_istore (lv' := [vR a0, vI a1, vI a2, vI a3, vI a4, vI a5, vI 0, vU]) (pc := 36) dX8_visit_36 rfl ?_
      refine gX8_visit_L38 hst fu a0 a1 a2 a3 a5 _ (fun s21 x22 => ?_) fu s8 a4 0
      refine G_iinc (x := a5) (g := fun x23 => [vR a0, vI a1, vI a2, vI a3, vI x22, vI x23, vU, vU]) (pc := 92) dX8_visit_92 rfl (fun _ => rfl) (fun x23 => ?_)
      refine G_goto (tgt := 17) (pc := 95) dX8_visit_95 ?_
      exact ih s21 x22 x23
def fX8_visit_J168 (fu : Nat) (s : z_M) (a0 : Int) (a1 : Int) (a2 : Int) (a3 : Int) (a4 : Int) (a5 : Int) (r : z_M → Int → Int → z_O) (k : z_M → Int → z_O) : z_O := z_let (z_w (a5 + 1)) (fun x36 => r s a4 x36)
theorem gX8_visit_J168 {l : Launch} {K : z_K} (hst : l.stackTraces = false) (fu : Nat) (s : z_M) (a0 : Int) (a1 : Int) (a2 : Int) (a3 : Int) (a4 : Int) (a5 : Int) (r : z_M → Int → Int → z_O) (k : z_M → Int → z_O) (hr : ∀ (s : z_M) (a4 : Int) (a5 : Int), G l K mX8_visit 3 69 0 0 108 [vR a0, vI a1, vI a2, vI a3, vI a4, vI a5, vU, vU] [] s (r s a4 a5)) (hk : ∀ (s : z_M) (a4 : Int), G l K mX8_visit 3 69 0 0 174 [vU, vU, vU, vU, vI a4, vU, vU, vU] [] s (k s a4)) : G l K mX8_visit 3 69 0 0 168 [vR a0, vI a1, vI a2, vI a3, vI a4, vI a5, vU, vU] [] s (fX8_visit_J168 fu s a0 a1 a2 a3 a4 a5 r k) := by
  unfold fX8_visit_J168
  refine G_iinc (x := a5) (g := fun x36 => [vR a0, vI a1, vI a2, vI a3, vI a4, vI x36, vU, vU]) (pc := 168) dX8_visit_168 rfl (fun _ => rfl) (fun x36 => ?_)
  refine G_goto (tgt := 108) (pc := 171) dX8_visit_171 ?_
  exact hr s a4 x36
def fX8_visit_L108 (fu : Nat) (a0 : Int) (a1 : Int) (a2 : Int) (a3 : Int) : Nat → z_M → Int → Int → (z_M → Int → z_O) → z_O
  | 0, _, _, _, _ => none
  | F + 1, s, a4, a5, k => if z_ob a0 8 then z_let (z_gr a0 0) (fun x29 => z_let (z_w (a1 + 1)) (fun x30 => if z_ob x29 3 then z_bI (fX3_firstSign fu s x29 x30) (fun x32 s31 => if (x32 : Int) ≤ a5 then (k s31 a4) else (if z_ob a0 8 then z_let (z_gr a0 1) (fun x33 => if z_ob x33 10 then z_bI (fX10_markOf fu s31 x33 a5 a2) (fun x35 s34 => if (x35 : Int) ≠ 1 then (fX8_visit_J168 fu s34 a0 a1 a2 a3 a4 a5 (fun w v4 v5 => fX8_visit_L108 fu a0 a1 a2 a3 F w v4 v5 k) k) else (if z_ob a0 8 then z_let (z_gr a0 0) (fun x37 => if z_ob x37 3 then z_let (z_gr x37 10) (fun x38 => if z_ob x38 7 then z_bI (fX7_get fu s34 x38 a5) (fun x40 s39 => z_let (z_w (x40 + 4)) (fun x41 => if z_ob a0 8 then z_bI (fX8_span fu s39 a0 x41 4 a3) (fun x43 s42 => z_let (z_min a4 x43) (fun x44 => fX8_visit_J168 fu s42 a0 a1 a2 a3 x44 a5 (fun w v4 v5 => fX8_visit_L108 fu a0 a1 a2 a3 F w v4 v5 k) k)) else none)) else none) else none) else none)) else none) else none)) else none)) else none
theorem gX8_visit_L108 {l : Launch} {K : z_K} (hst : l.stackTraces = false) (fu : Nat) (a0 : Int) (a1 : Int) (a2 : Int) (a3 : Int) (k : z_M → Int → z_O) (hk : ∀ (s : z_M) (a4 : Int), G l K mX8_visit 3 69 0 0 174 [vU, vU, vU, vU, vI a4, vU, vU, vU] [] s (k s a4)) : ∀ (F : Nat) (s : z_M) (a4 : Int) (a5 : Int), G l K mX8_visit 3 69 0 0 108 [vR a0, vI a1, vI a2, vI a3, vI a4, vI a5, vU, vU] [] s (fX8_visit_L108 fu a0 a1 a2 a3 F s a4 a5 k) := by
  intro F
  induction F with
  | zero => exact fun s a4 a5 h => absurd rfl h
  | succ F ih =>
    intro s a4 a5
    rw [fX8_visit_L108]
    refine G_iload (x := a5) (pc := 108) dX8_visit_108 rfl ?_
    refine G_aload_n (x := a0) (pc := 110) dX8_visit_110 rfl ?_
    refine G_getR (j := 0) (pc := 111) dX8_visit_111 rfl z_CLX8 (by decide) z_wX8_35 (by decide) (fun x29 => ?_)
    refine G_iload_n (x := a1) (pc := 114) dX8_visit_114 rfl ?_
    refine G_iconst (pc := 115) dX8_visit_115 ?_
    refine G_iadd (pc := 116) dX8_visit_116 (fun x30 => ?_)
    refine G_callVI (as := [vI x30]) (st := [vI a5]) (c := 3) (bc2 := 0) (bs2 := 0) (pc := 117) dX8_visit_117 z_mX3_firstSign z_vX3_firstSign z_wX8_106 (gX3_firstSign hst fu s x29 x30) rfl rfl (by decide) rfl rfl ⟨by decide, by decide, by decide, by decide, Nat.le_of_ble_eq_true rfl⟩ rfl (fun x32 s31 => ?_)
    refine G_icmp_ge (tgt := 174) (pc := 120) dX8_visit_120 ?_ ?_
    · refine G_fg (lv2 := [vU, vU, vU, vU, vI a4, vU, vU, vU]) ⟨Or.inl rfl, Or.inl rfl, Or.inl rfl, Or.inl rfl, Or.inr rfl, Or.inl rfl, Or.inl rfl, Or.inl rfl, trivial⟩ ?_
      exact hk s31 a4
    · refine G_aload_n (x := a0) (pc := 123) dX8_visit_123 rfl ?_
      refine G_getR (j := 1) (pc := 124) dX8_visit_124 rfl z_CLX8 (by decide) z_wX8_39 (by decide) (fun x33 => ?_)
      refine G_iload (x := a5) (pc := 127) dX8_visit_127 rfl ?_
      refine G_iload_n (x := a2) (pc := 129) dX8_visit_129 rfl ?_
      refine G_callVI (as := [vI a5, vI a2]) (st := []) (c := 10) (bc2 := 0) (bs2 := 0) (pc := 130) dX8_visit_130 z_mX10_markOf z_vX10_markOf z_wX8_109 (gX10_markOf hst fu s31 x33 a5 a2) rfl rfl (by decide) rfl rfl ⟨by decide, by decide, by decide, by decide, Nat.le_of_ble_eq_true rfl⟩ rfl (fun x35 s34 => ?_)
      refine G_iconst (pc := 133) dX8_visit_133 ?_
      refine G_icmp_ne (tgt := 168) (pc := 134) dX8_visit_134 ?_ ?_
      · exact gX8_visit_J168 hst fu s34 a0 a1 a2 a3 a4 a5 _ _ (fun w v4 v5 => ih w v4 v5) hk
      · refine G_aload_n (x := a0) (pc := 137) dX8_visit_137 rfl ?_
        refine G_getR (j := 0) (pc := 138) dX8_visit_138 rfl z_CLX8 (by decide) z_wX8_35 (by decide) (fun x37 => ?_)
        refine G_getR (j := 10) (pc := 141) dX8_visit_141 rfl z_CLX3 (by decide) z_wX8_114 (by decide) (fun x38 => ?_)
        refine G_iload (x := a5) (pc := 144) dX8_visit_144 rfl ?_
        refine G_callVI (as := [vI a5]) (st := []) (c := 7) (bc2 := 0) (bs2 := 0) (pc := 146) dX8_visit_146 z_mX7_get z_vX7_get z_wX8_69 (gX7_get hst fu s34 x38 a5) rfl rfl (by decide) rfl rfl ⟨by decide, by decide, by decide, by decide, Nat.le_of_ble_eq_true rfl⟩ rfl (fun x40 s39 => ?_)
        refine G_iconst (pc := 149) dX8_visit_149 ?_
        refine G_iadd (pc := 150) dX8_visit_150 (fun x41 => ?_)
        refine G_istore (lv' := [vR a0, vI a1, vI a2, vI a3, vI a4, vI a5, vI x41, vU]) (pc := 151) dX8_visit_151 rfl ?_
        refine G_iload (x := a4) (pc := 153) dX8_visit_153 rfl ?_
        refine G_aload_n (x := a0) (pc := 155) dX8_visit_155 rfl ?_
        refine G_iload (x := x41) (pc := 156) dX8_visit_156 rfl ?_
        refine G_iconst (pc := 158) dX8_visit_158 ?_
        refine G_iload_n (x := a3) (pc := 159) dX8_visit_159 rfl ?_
        refine G_callVI (as := [vI x41, vI 4, vI a3]) (st := [vI a4]) (c := 8) (bc2 := 0) (bs2 := 0) (pc := 160) dX8_visit_160 z_mX8_span z_vX8_span z_wX8_100 (gX8_span hst fu s39 a0 x41 4 a3) rfl rfl (by decide) rfl rfl ⟨by decide, by decide, by decide, by decide, Nat.le_of_ble_eq_true rfl⟩ rfl (fun x43 s42 => ?_)
        refine G_mmin (pc := 163) dX8_visit_163 z_wX8_103 (fun x44 => ?_) (Nat.le_of_ble_eq_true rfl)
        refine G_istore (lv' := [vR a0, vI a1, vI a2, vI a3, vI x44, vI a5, vI x41, vU]) (pc := 166) dX8_visit_166 rfl ?_
        refine G_fg (lv2 := [vR a0, vI a1, vI a2, vI a3, vI x44, vI a5, vU, vU]) ⟨Or.inr rfl, Or.inr rfl, Or.inr rfl, Or.inr rfl, Or.inr rfl, Or.inr rfl, Or.inl rfl, Or.inl rfl, trivial⟩ ?_
        exact gX8_visit_J168 hst fu s42 a0 a1 a2 a3 x44 a5 _ _ (fun w v4 v5 => ih w v4 v5) hk
def fX8_visit (fu : Nat) (s : z_M) (a0 : Int) (a1 : Int) (a2 : Int) (a3 : Int) : z_O := if z_ob a0 8 then z_let (z_gr a0 0) (fun x1 => if z_ob x1 3 then z_let (z_gr x1 15) (fun x2 => if z_ob x2 7 then z_bI (fX7_get fu s x2 a1) (fun x4 s3 => fX8_visit_L17 fu a0 a1 a2 a3 fu s3 2147483647 x4 (fun s24 x25 => if z_ob a0 8 then z_let (z_gr a0 0) (fun x26 => if z_ob x26 3 then z_bI (fX3_firstSign fu s24 x26 a1) (fun x28 s27 => fX8_visit_L108 fu a0 a1 a2 a3 fu s27 x25 x28 (fun s45 x46 => some (vI x46, s45))) else none) else none)) else none) else none) else none
theorem gX8_visit {l : Launch} {K : z_K} (hst : l.stackTraces = false) (fu : Nat) (s : z_M) (a0 : Int) (a1 : Int) (a2 : Int) (a3 : Int) : z_D l K mX8_visit 3 69 0 0 [vR a0, vI a1, vI a2, vI a3] s (fX8_visit fu s a0 a1 a2 a3) := by
  refine z_D_of (lv := [vR a0, vI a1, vI a2, vI a3, vU, vU, vU, vU]) hst z_mX8_visit rfl ?_ (Nat.le_of_ble_eq_true rfl) rfl
  unfold fX8_visit
  refine G_ldc (pc := 0) dX8_visit_0 z_wX8_68 ?_
  refine G_istore (lv' := [vR a0, vI a1, vI a2, vI a3, vI 2147483647, vU, vU, vU]) (pc := 2) dX8_visit_2 rfl ?_
  refine G_aload_n (x := a0) (pc := 4) dX8_visit_4 rfl ?_
  refine G_getR (j := 0) (pc := 5) dX8_visit_5 rfl z_CLX8 (by decide) z_wX8_35 (by decide) (fun x1 => ?_)
  refine G_getR (j := 15) (pc := 8) dX8_visit_8 rfl z_CLX3 (by decide) z_wX8_84 (by decide) (fun x2 => ?_)
  refine G_iload_n (x := a1) (pc := 11) dX8_visit_11 rfl ?_
  refine G_callVI (as := [vI a1]) (st := []) (c := 7) (bc2 := 0) (bs2 := 0) (pc := 12) dX8_visit_12 z_mX7_get z_vX7_get z_wX8_69 (gX7_get hst fu s x2 a1) rfl rfl (by decide) rfl rfl ⟨by decide, by decide, by decide, by decide, Nat.le_of_ble_eq_true rfl⟩ rfl (fun x4 s3 => ?_)
  refine G_istore (lv' := [vR a0, vI a1, vI a2, vI a3, vI 2147483647, vI x4, vU, vU]) (pc := 15) dX8_visit_15 rfl ?_
  refine gX8_visit_L17 hst fu a0 a1 a2 a3 _ (fun s24 x25 => ?_) fu s3 2147483647 x4
  refine G_aload_n (x := a0) (pc := 98) dX8_visit_98 rfl ?_
  refine G_getR (j := 0) (pc := 99) dX8_visit_99 rfl z_CLX8 (by decide) z_wX8_35 (by decide) (fun x26 => ?_)
  refine G_iload_n (x := a1) (pc := 102) dX8_visit_102 rfl ?_
  refine G_callVI (as := [vI a1]) (st := []) (c := 3) (bc2 := 0) (bs2 := 0) (pc := 103) dX8_visit_103 z_mX3_firstSign z_vX3_firstSign z_wX8_106 (gX3_firstSign hst fu s24 x26 a1) rfl rfl (by decide) rfl rfl ⟨by decide, by decide, by decide, by decide, Nat.le_of_ble_eq_true rfl⟩ rfl (fun x28 s27 => ?_)
  refine G_istore (lv' := [vR a0, vI a1, vI a2, vI a3, vI x25, vI x28, vU, vU]) (pc := 106) dX8_visit_106 rfl ?_
  refine gX8_visit_L108 hst fu a0 a1 a2 a3 _ (fun s45 x46 => ?_) fu s27 x25 x28
  refine G_iload (x := x46) (pc := 174) dX8_visit_174 rfl ?_
  exact G_iret (pc := 176) dX8_visit_176
def fX8_build_L10 (fu : Nat) (a0 : Int) (a1 : Int) : Nat → z_M → Int → (z_M → z_O) → z_O
  | 0, _, _, _ => none
  | F + 1, s, a2, k => if (a1 : Int) ≤ a2 then (k s) else (if z_ob a0 8 then z_let (z_gr a0 7) (fun x4 => if z_ob a0 8 then z_bI (fX8_outerOn fu s a0 a2 0) (fun x6 s5 => if z_ob x4 7 then z_bN (fX7_put fu s5 x4 a2 x6) (fun s7 => if z_ob a0 8 then z_let (z_gr a0 8) (fun x8 => if z_ob a0 8 then z_bI (fX8_outerOn fu s7 a0 a2 1) (fun x10 s9 => if z_ob x8 7 then z_bN (fX7_put fu s9 x8 a2 x10) (fun s11 => z_let (z_w (a2 + 1)) (fun x12 => fX8_build_L10 fu a0 a1 F s11 x12 k)) else none) else none) else none) else none) else none) else none)
theorem gX8_build_L10 {l : Launch} {K : z_K} (hst : l.stackTraces = false) (fu : Nat) (a0 : Int) (a1 : Int) (k : z_M → z_O) (hk : ∀ (s : z_M), G l K mX8_build 5 114 0 0 49 [vR a0, vI a1, vU, vU, vU] [] s (k s)) : ∀ (F : Nat) (s : z_M) (a2 : Int), G l K mX8_build 5 114 0 0 10 [vR a0, vI a1, vI a2, vU, vU] [] s (fX8_build_L10 fu a0 a1 F s a2 k) := by
  intro F
  induction F with
  | zero => exact fun s a2 h => absurd rfl h
  | succ F ih =>
    intro s a2
    rw [fX8_build_L10]
    refine G_iload_n (x := a2) (pc := 10) dX8_build_10 rfl ?_
    refine G_iload_n (x := a1) (pc := 11) dX8_build_11 rfl ?_
    refine G_icmp_ge (tgt := 49) (pc := 12) dX8_build_12 ?_ ?_
    · refine G_fg (lv2 := [vR a0, vI a1, vU, vU, vU]) ⟨Or.inr rfl, Or.inr rfl, Or.inl rfl, Or.inl rfl, Or.inl rfl, trivial⟩ ?_
      exact hk s
    · refine G_aload_n (x := a0) (pc := 15) dX8_build_15 rfl ?_
      refine G_getR (j := 7) (pc := 16) dX8_build_16 rfl z_CLX8 (by decide) z_wX8_29 (by decide) (fun x4 => ?_)
      refine G_iload_n (x := a2) (pc := 19) dX8_build_19 rfl ?_
      refine G_aload_n (x := a0) (pc := 20) dX8_build_20 rfl ?_
      refine G_iload_n (x := a2) (pc := 21) dX8_build_21 rfl ?_
      refine G_iconst (pc := 22) dX8_build_22 ?_
      refine G_callVI (as := [vI a2, vI 0]) (st := [vI a2, vR x4]) (c := 8) (bc2 := 0) (bs2 := 0) (pc := 23) dX8_build_23 z_mX8_outerOn z_vX8_outerOn z_wX8_52 (gX8_outerOn hst fu s a0 a2 0) rfl rfl (by decide) rfl rfl ⟨by decide, by decide, by decide, by decide, Nat.le_of_ble_eq_true rfl⟩ rfl (fun x6 s5 => ?_)
      refine G_callVN (as := [vI a2, vI x6]) (st := []) (c := 7) (bc2 := 0) (bs2 := 0) (pc := 26) dX8_build_26 z_mX7_put z_vX7_put z_wX8_56 (gX7_put hst fu s5 x4 a2 x6) rfl rfl (by decide) rfl rfl ⟨by decide, by decide, by decide, by decide, Nat.le_of_ble_eq_true rfl⟩ rfl (fun s7 => ?_)
      refine G_aload_n (x := a0) (pc := 29) dX8_build_29 rfl ?_
      refine G_getR (j := 8) (pc := 30) dX8_build_30 rfl z_CLX8 (by decide) z_wX8_32 (by decide) (fun x8 => ?_)
      refine G_iload_n (x := a2) (pc := 33) dX8_build_33 rfl ?_
      refine G_aload_n (x := a0) (pc := 34) dX8_build_34 rfl ?_
      refine G_iload_n (x := a2) (pc := 35) dX8_build_35 rfl ?_
      refine G_iconst (pc := 36) dX8_build_36 ?_
      refine G_callVI (as := [vI a2, vI 1]) (st := [vI a2, vR x8]) (c := 8) (bc2 := 0) (bs2 := 0) (pc := 37) dX8_build_37 z_mX8_outerOn z_vX8_outerOn z_wX8_52 (gX8_outerOn hst fu s7 a0 a2 1) rfl rfl (by decide) rfl rfl ⟨by decide, by decide, by decide, by decide, Nat.le_of_ble_eq_true rfl⟩ rfl (fun x10 s9 => ?_)
      refine G_callVN (as := [vI a2, vI x10]) (st := []) (c := 7) (bc2 := 0) (bs2 := 0) (pc := 40) dX8_build_40 z_mX7_put z_vX7_put z_wX8_56 (gX7_put hst fu s9 x8 a2 x10) rfl rfl (by decide) rfl rfl ⟨by decide, by decide, by decide, by decide, Nat.le_of_ble_eq_true rfl⟩ rfl (fun s11 => ?_)
      refine G_iinc (x := a2) (g := fun x12 => [vR a0, vI a1, vI x12, vU, vU]) (pc := 43) dX8_build_43 rfl (fun _ => rfl) (fun x12 => ?_)
      refine G_goto (tgt := 10) (pc := 46) dX8_build_46 ?_
      exact ih s11 x12
def fX8_build_J167 (fu : Nat) (s : z_M) (a0 : Int) (a1 : Int) (a2 : Int) (t0 : Int) (t1 : Int) (t2 : Int) (t3 : Int) (r : z_M → Int → z_O) (k : z_M → z_O) : z_O := z_let (z_w (t2 + t3)) (fun x34 => if z_ob t0 7 then z_bN (fX7_put fu s t0 t1 x34) (fun s35 => if z_ob a0 8 then z_let (z_gr a0 6) (fun x36 => z_let (z_w (a2 + 1)) (fun x37 => if z_ob a0 8 then z_let (z_gr a0 6) (fun x38 => if z_ob x38 7 then z_bI (fX7_get fu s35 x38 a2) (fun x40 s39 => if z_ob a0 8 then z_let (z_gr a0 5) (fun x41 => if z_ob x41 7 then z_bI (fX7_get fu s39 x41 a2) (fun x43 s42 => z_let (z_w (x40 + x43)) (fun x44 => if z_ob x36 7 then z_bN (fX7_put fu s42 x36 x37 x44) (fun s45 => z_let (z_w (a2 + 1)) (fun x46 => r s45 x46)) else none)) else none) else none) else none) else none)) else none) else none)
theorem gX8_build_J167 {l : Launch} {K : z_K} (hst : l.stackTraces = false) (fu : Nat) (s : z_M) (a0 : Int) (a1 : Int) (a2 : Int) (t0 : Int) (t1 : Int) (t2 : Int) (t3 : Int) (r : z_M → Int → z_O) (k : z_M → z_O) (hr : ∀ (s : z_M) (a2 : Int), G l K mX8_build 5 114 0 0 51 [vR a0, vI a1, vI a2, vU, vU] [] s (r s a2)) (hk : ∀ (s : z_M), G l K mX8_build 5 114 0 0 204 [vU, vU, vU, vU, vU] [] s (k s)) : G l K mX8_build 5 114 0 0 167 [vR a0, vI a1, vI a2, vU, vU] [vI t3, vI t2, vI t1, vR t0] s (fX8_build_J167 fu s a0 a1 a2 t0 t1 t2 t3 r k) := by
  unfold fX8_build_J167
  refine G_iadd (pc := 167) dX8_build_167 (fun x34 => ?_)
  refine G_callVN (as := [vI t1, vI x34]) (st := []) (c := 7) (bc2 := 0) (bs2 := 0) (pc := 168) dX8_build_168 z_mX7_put z_vX7_put z_wX8_56 (gX7_put hst fu s t0 t1 x34) rfl rfl (by decide) rfl rfl ⟨by decide, by decide, by decide, by decide, Nat.le_of_ble_eq_true rfl⟩ rfl (fun s35 => ?_)
  refine G_aload_n (x := a0) (pc := 171) dX8_build_171 rfl ?_
  refine G_getR (j := 6) (pc := 172) dX8_build_172 rfl z_CLX8 (by decide) z_wX8_26 (by decide) (fun x36 => ?_)
  refine G_iload_n (x := a2) (pc := 175) dX8_build_175 rfl ?_
  refine G_iconst (pc := 176) dX8_build_176 ?_
  refine G_iadd (pc := 177) dX8_build_177 (fun x37 => ?_)
  refine G_aload_n (x := a0) (pc := 178) dX8_build_178 rfl ?_
  refine G_getR (j := 6) (pc := 179) dX8_build_179 rfl z_CLX8 (by decide) z_wX8_26 (by decide) (fun x38 => ?_)
  refine G_iload_n (x := a2) (pc := 182) dX8_build_182 rfl ?_
  refine G_callVI (as := [vI a2]) (st := [vI x37, vR x36]) (c := 7) (bc2 := 0) (bs2 := 0) (pc := 183) dX8_build_183 z_mX7_get z_vX7_get z_wX8_69 (gX7_get hst fu s35 x38 a2) rfl rfl (by decide) rfl rfl ⟨by decide, by decide, by decide, by decide, Nat.le_of_ble_eq_true rfl⟩ rfl (fun x40 s39 => ?_)
  refine G_aload_n (x := a0) (pc := 186) dX8_build_186 rfl ?_
  refine G_getR (j := 5) (pc := 187) dX8_build_187 rfl z_CLX8 (by decide) z_wX8_23 (by decide) (fun x41 => ?_)
  refine G_iload_n (x := a2) (pc := 190) dX8_build_190 rfl ?_
  refine G_callVI (as := [vI a2]) (st := [vI x40, vI x37, vR x36]) (c := 7) (bc2 := 0) (bs2 := 0) (pc := 191) dX8_build_191 z_mX7_get z_vX7_get z_wX8_69 (gX7_get hst fu s39 x41 a2) rfl rfl (by decide) rfl rfl ⟨by decide, by decide, by decide, by decide, Nat.le_of_ble_eq_true rfl⟩ rfl (fun x43 s42 => ?_)
  refine G_iadd (pc := 194) dX8_build_194 (fun x44 => ?_)
  refine G_callVN (as := [vI x37, vI x44]) (st := []) (c := 7) (bc2 := 0) (bs2 := 0) (pc := 195) dX8_build_195 z_mX7_put z_vX7_put z_wX8_56 (gX7_put hst fu s42 x36 x37 x44) rfl rfl (by decide) rfl rfl ⟨by decide, by decide, by decide, by decide, Nat.le_of_ble_eq_true rfl⟩ rfl (fun s45 => ?_)
  refine G_iinc (x := a2) (g := fun x46 => [vR a0, vI a1, vI x46, vU, vU]) (pc := 198) dX8_build_198 rfl (fun _ => rfl) (fun x46 => ?_)
  refine G_goto (tgt := 51) (pc := 201) dX8_build_201 ?_
  exact hr s45 x46
def fX8_build_J114 (fu : Nat) (s : z_M) (a0 : Int) (a1 : Int) (a2 : Int) (a3 : Int) (t0 : Int) (t1 : Int) (t2 : Int) (r : z_M → Int → z_O) (k : z_M → z_O) : z_O := if z_ob t0 7 then z_bN (fX7_put fu s t0 t1 t2) (fun s21 => if z_ob a0 8 then z_let (z_gr a0 8) (fun x22 => if z_ob x22 7 then z_bI (fX7_get fu s21 x22 a2) (fun x24 s23 => if z_ob a0 8 then z_let (z_gr a0 7) (fun x25 => z_let (z_w (a2 + 1)) (fun x26 => if z_ob x25 7 then z_bI (fX7_get fu s23 x25 x26) (fun x28 s27 => z_let (z_max x24 x28) (fun x29 => if z_ob a0 8 then z_let (z_gr a0 5) (fun x30 => if z_ob a0 8 then z_let (z_gr a0 2) (fun x31 => if z_ob x31 7 then z_bI (fX7_get fu s27 x31 8) (fun x33 s32 => if (a3 : Int) ≠ 2147483647 then (fX8_build_J167 fu s32 a0 a1 a2 x30 a2 x33 12 (fun w v2 => r w v2) k) else (fX8_build_J167 fu s32 a0 a1 a2 x30 a2 x33 x29 (fun w v2 => r w v2) k)) else none) else none) else none)) else none)) else none) else none) else none) else none
theorem gX8_build_J114 {l : Launch} {K : z_K} (hst : l.stackTraces = false) (fu : Nat) (s : z_M) (a0 : Int) (a1 : Int) (a2 : Int) (a3 : Int) (t0 : Int) (t1 : Int) (t2 : Int) (r : z_M → Int → z_O) (k : z_M → z_O) (hr : ∀ (s : z_M) (a2 : Int), G l K mX8_build 5 114 0 0 51 [vR a0, vI a1, vI a2, vU, vU] [] s (r s a2)) (hk : ∀ (s : z_M), G l K mX8_build 5 114 0 0 204 [vU, vU, vU, vU, vU] [] s (k s)) : G l K mX8_build 5 114 0 0 114 [vR a0, vI a1, vI a2, vI a3, vU] [vI t2, vI t1, vR t0] s (fX8_build_J114 fu s a0 a1 a2 a3 t0 t1 t2 r k) := by
  unfold fX8_build_J114
  refine G_callVN (as := [vI t1, vI t2]) (st := []) (c := 7) (bc2 := 0) (bs2 := 0) (pc := 114) dX8_build_114 z_mX7_put z_vX7_put z_wX8_56 (gX7_put hst fu s t0 t1 t2) rfl rfl (by decide) rfl rfl ⟨by decide, by decide, by decide, by decide, Nat.le_of_ble_eq_true rfl⟩ rfl (fun s21 => ?_)
  refine G_aload_n (x := a0) (pc := 117) dX8_build_117 rfl ?_
  refine G_getR (j := 8) (pc := 118) dX8_build_118 rfl z_CLX8 (by decide) z_wX8_32 (by decide) (fun x22 => ?_)
  refine G_iload_n (x := a2) (pc := 121) dX8_build_121 rfl ?_
  refine G_callVI (as := [vI a2]) (st := []) (c := 7) (bc2 := 0) (bs2 := 0) (pc := 122) dX8_build_122 z_mX7_get z_vX7_get z_wX8_69 (gX7_get hst fu s21 x22 a2) rfl rfl (by decide) rfl rfl ⟨by decide, by decide, by decide, by decide, Nat.le_of_ble_eq_true rfl⟩ rfl (fun x24 s23 => ?_)
  refine G_aload_n (x := a0) (pc := 125) dX8_build_125 rfl ?_
  refine G_getR (j := 7) (pc := 126) dX8_build_126 rfl z_CLX8 (by decide) z_wX8_29 (by decide) (fun x25 => ?_)
  refine G_iload_n (x := a2) (pc := 129) dX8_build_129 rfl ?_
  refine G_iconst (pc := 130) dX8_build_130 ?_
  refine G_iadd (pc := 131) dX8_build_131 (fun x26 => ?_)
  refine G_callVI (as := [vI x26]) (st := [vI x24]) (c := 7) (bc2 := 0) (bs2 := 0) (pc := 132) dX8_build_132 z_mX7_get z_vX7_get z_wX8_69 (gX7_get hst fu s23 x25 x26) rfl rfl (by decide) rfl rfl ⟨by decide, by decide, by decide, by decide, Nat.le_of_ble_eq_true rfl⟩ rfl (fun x28 s27 => ?_)
  refine G_mmax (pc := 135) dX8_build_135 z_wX8_73 (fun x29 => ?_) (Nat.le_of_ble_eq_true rfl)
  refine G_istore (lv' := [vR a0, vI a1, vI a2, vI a3, vI x29]) (pc := 138) dX8_build_138 rfl ?_
  refine G_aload_n (x := a0) (pc := 140) dX8_build_140 rfl ?_
  refine G_getR (j := 5) (pc := 141) dX8_build_141 rfl z_CLX8 (by decide) z_wX8_23 (by decide) (fun x30 => ?_)
  refine G_iload_n (x := a2) (pc := 144) dX8_build_144 rfl ?_
  refine G_aload_n (x := a0) (pc := 145) dX8_build_145 rfl ?_
  refine G_getR (j := 2) (pc := 146) dX8_build_146 rfl z_CLX8 (by decide) z_wX8_43 (by decide) (fun x31 => ?_)
  refine G_bipush (pc := 149) dX8_build_149 ?_
  refine G_callVI (as := [vI 8]) (st := [vI a2, vR x30]) (c := 7) (bc2 := 0) (bs2 := 0) (pc := 151) dX8_build_151 z_mX7_get z_vX7_get z_wX8_69 (gX7_get hst fu s27 x31 8) rfl rfl (by decide) rfl rfl ⟨by decide, by decide, by decide, by decide, Nat.le_of_ble_eq_true rfl⟩ rfl (fun x33 s32 => ?_)
  refine G_iload_n (x := a3) (pc := 154) dX8_build_154 rfl ?_
  refine G_ldc (pc := 155) dX8_build_155 z_wX8_68 ?_
  refine G_icmp_ne (tgt := 165) (pc := 157) dX8_build_157 ?_ ?_
  · refine G_bipush (pc := 165) dX8_build_165 ?_
    refine G_fg (lv2 := [vR a0, vI a1, vI a2, vU, vU]) ⟨Or.inr rfl, Or.inr rfl, Or.inr rfl, Or.inl rfl, Or.inl rfl, trivial⟩ ?_
    exact gX8_build_J167 hst fu s32 a0 a1 a2 x30 a2 x33 12 _ _ (fun w v2 => hr w v2) hk
  · refine G_iload (x := x29) (pc := 160) dX8_build_160 rfl ?_
    refine G_goto (tgt := 167) (pc := 162) dX8_build_162 ?_
    refine G_fg (lv2 := [vR a0, vI a1, vI a2, vU, vU]) ⟨Or.inr rfl, Or.inr rfl, Or.inr rfl, Or.inl rfl, Or.inl rfl, trivial⟩ ?_
    exact gX8_build_J167 hst fu s32 a0 a1 a2 x30 a2 x33 x29 _ _ (fun w v2 => hr w v2) hk
def fX8_build_J95 (fu : Nat) (s : z_M) (a0 : Int) (a1 : Int) (a2 : Int) (t0 : Int) (r : z_M → Int → z_O) (k : z_M → z_O) : z_O := if z_ob a0 8 then z_let (z_gr a0 4) (fun x20 => if (t0 : Int) ≠ 2147483647 then (fX8_build_J114 fu s a0 a1 a2 t0 x20 a2 t0 (fun w v2 => r w v2) k) else (fX8_build_J114 fu s a0 a1 a2 t0 x20 a2 (-1000) (fun w v2 => r w v2) k)) else none
theorem gX8_build_J95 {l : Launch} {K : z_K} (hst : l.stackTraces = false) (fu : Nat) (s : z_M) (a0 : Int) (a1 : Int) (a2 : Int) (t0 : Int) (r : z_M → Int → z_O) (k : z_M → z_O) (hr : ∀ (s : z_M) (a2 : Int), G l K mX8_build 5 114 0 0 51 [vR a0, vI a1, vI a2, vU, vU] [] s (r s a2)) (hk : ∀ (s : z_M), G l K mX8_build 5 114 0 0 204 [vU, vU, vU, vU, vU] [] s (k s)) : G l K mX8_build 5 114 0 0 95 [vR a0, vI a1, vI a2, vU, vU] [vI t0] s (fX8_build_J95 fu s a0 a1 a2 t0 r k) := by
  unfold fX8_build_J95
  refine G_istore_n (lv' := [vR a0, vI a1, vI a2, vI t0, vU]) (pc := 95) dX8_build_95 rfl ?_
  refine G_aload_n (x := a0) (pc := 96) dX8_build_96 rfl ?_
  refine G_getR (j := 4) (pc := 97) dX8_build_97 rfl z_CLX8 (by decide) z_wX8_20 (by decide) (fun x20 => ?_)
  refine G_iload_n (x := a2) (pc := 100) dX8_build_100 rfl ?_
  refine G_iload_n (x := t0) (pc := 101) dX8_build_101 rfl ?_
  refine G_ldc (pc := 102) dX8_build_102 z_wX8_68 ?_
  refine G_icmp_ne (tgt := 113) (pc := 104) dX8_build_104 ?_ ?_
  · refine G_iload_n (x := t0) (pc := 113) dX8_build_113 rfl ?_
    exact gX8_build_J114 hst fu s a0 a1 a2 t0 x20 a2 t0 _ _ (fun w v2 => hr w v2) hk
  · refine G_sipush (pc := 107) dX8_build_107 ?_
    refine G_goto (tgt := 114) (pc := 110) dX8_build_110 ?_
    exact gX8_build_J114 hst fu s a0 a1 a2 t0 x20 a2 (-1000) _ _ (fun w v2 => hr w v2) hk
def fX8_build_L51 (fu : Nat) (a0 : Int) (a1 : Int) : Nat → z_M → Int → (z_M → z_O) → z_O
  | 0, _, _, _ => none
  | F + 1, s, a2, k => if (a1 : Int) ≤ a2 then (k s) else (if z_ob a0 8 then z_let (s a0 9) (fun x14 => z_let (z_w (x14 + 1)) (fun x15 => if z_ob a0 8 then z_let (z_up s a0 9 x15) (fun s16 => if z_ob a0 8 then z_bI (fX8_visit fu s16 a0 a2 1 1) (fun x18 s17 => z_let (z_w (a2 + 1)) (fun x19 => if (a1 : Int) ≤ x19 then (fX8_build_J95 fu s17 a0 a1 a2 2147483647 (fun w v2 => fX8_build_L51 fu a0 a1 F w v2 k) k) else (z_let (z_w (a2 + 1)) (fun x47 => if z_ob a0 8 then z_bI (fX8_visit fu s17 a0 x47 0 0) (fun x49 s48 => fX8_build_J95 fu s48 a0 a1 a2 x49 (fun w v2 => fX8_build_L51 fu a0 a1 F w v2 k) k) else none)))) else none) else none)) else none)
theorem gX8_build_L51 {l : Launch} {K : z_K} (hst : l.stackTraces = false) (fu : Nat) (a0 : Int) (a1 : Int) (k : z_M → z_O) (hk : ∀ (s : z_M), G l K mX8_build 5 114 0 0 204 [vU, vU, vU, vU, vU] [] s (k s)) : ∀ (F : Nat) (s : z_M) (a2 : Int), G l K mX8_build 5 114 0 0 51 [vR a0, vI a1, vI a2, vU, vU] [] s (fX8_build_L51 fu a0 a1 F s a2 k) := by
  intro F
  induction F with
  | zero => exact fun s a2 h => absurd rfl h
  | succ F ih =>
    intro s a2
    rw [fX8_build_L51]
    refine G_iload_n (x := a2) (pc := 51) dX8_build_51 rfl ?_
    refine G_iload_n (x := a1) (pc := 52) dX8_build_52 rfl ?_
    refine G_icmp_ge (tgt := 204) (pc := 53) dX8_build_53 ?_ ?_
    · refine G_fg (lv2 := [vU, vU, vU, vU, vU]) ⟨Or.inl rfl, Or.inl rfl, Or.inl rfl, Or.inl rfl, Or.inl rfl, trivial⟩ ?_
      exact hk s
    · refine G_aload_n (x := a0) (pc := 56) dX8_build_56 rfl ?_
      refine G_dupR (pc := 57) dX8_build_57 ?_
      refine G_getI (j := 9) (pc := 58) dX8_build_58 rfl z_CLX8 (by decide) z_wX8_60 (by decide) (fun x14 => ?_)
      refine G_iconst (pc := 61) dX8_build_61 ?_
      refine G_iadd (pc := 62) dX8_build_62 (fun x15 => ?_)
      refine G_putI (j := 9) (pc := 63) dX8_build_63 rfl z_CLX8 (by decide) z_wX8_60 rfl (by decide) (by decide) (fun s16 => ?_)
      refine G_aload_n (x := a0) (pc := 66) dX8_build_66 rfl ?_
      refine G_iload_n (x := a2) (pc := 67) dX8_build_67 rfl ?_
      refine G_iconst (pc := 68) dX8_build_68 ?_
      refine G_iconst (pc := 69) dX8_build_69 ?_
      refine G_callVI (as := [vI a2, vI 1, vI 1]) (st := []) (c := 8) (bc2 := 0) (bs2 := 0) (pc := 70) dX8_build_70 z_mX8_visit z_vX8_visit z_wX8_64 (gX8_visit hst fu s16 a0 a2 1 1) rfl rfl (by decide) rfl rfl ⟨by decide, by decide, by decide, by decide, Nat.le_of_ble_eq_true rfl⟩ rfl (fun x18 s17 => ?_)
      refine G_popI (pc := 73) dX8_build_73 ?_
      refine G_iload_n (x := a2) (pc := 74) dX8_build_74 rfl ?_
      refine G_iconst (pc := 75) dX8_build_75 ?_
      refine G_iadd (pc := 76) dX8_build_76 (fun x19 => ?_)
      refine G_iload_n (x := a1) (pc := 77) dX8_build_77 rfl ?_
      refine G_icmp_ge (tgt := 93) (pc := 78) dX8_build_78 ?_ ?_
      · refine G_ldc (pc := 93) dX8_build_93 z_wX8_68 ?_
        exact gX8_build_J95 hst fu s17 a0 a1 a2 2147483647 _ _ (fun w v2 => ih w v2) hk
      · refine G_aload_n (x := a0) (pc := 81) dX8_build_81 rfl ?_
        refine G_iload_n (x := a2) (pc := 82) dX8_build_82 rfl ?_
        refine G_iconst (pc := 83) dX8_build_83 ?_
        refine G_iadd (pc := 84) dX8_build_84 (fun x47 => ?_)
        refine G_iconst (pc := 85) dX8_build_85 ?_
        refine G_iconst (pc := 86) dX8_build_86 ?_
        refine G_callVI (as := [vI x47, vI 0, vI 0]) (st := []) (c := 8) (bc2 := 0) (bs2 := 0) (pc := 87) dX8_build_87 z_mX8_visit z_vX8_visit z_wX8_64 (gX8_visit hst fu s17 a0 x47 0 0) rfl rfl (by decide) rfl rfl ⟨by decide, by decide, by decide, by decide, Nat.le_of_ble_eq_true rfl⟩ rfl (fun x49 s48 => ?_)
        refine G_goto (tgt := 95) (pc := 90) dX8_build_90 ?_
        exact gX8_build_J95 hst fu s48 a0 a1 a2 x49 _ _ (fun w v2 => ih w v2) hk
def fX8_build (fu : Nat) (s : z_M) (a0 : Int) : z_O := if z_ob a0 8 then z_let (z_gr a0 0) (fun x1 => if z_ob x1 3 then z_bI (fX3_lineCount fu s x1) (fun x3 s2 => fX8_build_L10 fu a0 x3 fu s2 0 (fun s13 => fX8_build_L51 fu a0 x3 fu s13 0 (fun s50 => some (vN, s50)))) else none) else none
theorem gX8_build {l : Launch} {K : z_K} (hst : l.stackTraces = false) (fu : Nat) (s : z_M) (a0 : Int) : z_D l K mX8_build 5 114 0 0 [vR a0] s (fX8_build fu s a0) := by
  refine z_D_of (lv := [vR a0, vU, vU, vU, vU]) hst z_mX8_build rfl ?_ (Nat.le_of_ble_eq_true rfl) rfl
  unfold fX8_build
  refine G_aload_n (x := a0) (pc := 0) dX8_build_0 rfl ?_
  refine G_getR (j := 0) (pc := 1) dX8_build_1 rfl z_CLX8 (by decide) z_wX8_35 (by decide) (fun x1 => ?_)
  refine G_callVI (as := []) (st := []) (c := 3) (bc2 := 0) (bs2 := 0) (pc := 4) dX8_build_4 z_mX3_lineCount z_vX3_lineCount z_wX8_46 (gX3_lineCount hst fu s x1) rfl rfl (by decide) rfl rfl ⟨by decide, by decide, by decide, by decide, Nat.le_of_ble_eq_true rfl⟩ rfl (fun x3 s2 => ?_)
  refine G_istore_n (lv' := [vR a0, vI x3, vU, vU, vU]) (pc := 7) dX8_build_7 rfl ?_
  refine G_iconst (pc := 8) dX8_build_8 ?_
  refine G_istore_n (lv' := [vR a0, vI x3, vI 0, vU, vU]) (pc := 9) dX8_build_9 rfl ?_
  refine gX8_build_L10 hst fu a0 x3 _ (fun s13 => ?_) fu s2 0
  refine G_iconst (pc := 49) dX8_build_49 ?_
  refine G_istore_n (lv' := [vR a0, vI x3, vI 0, vU, vU]) (pc := 50) dX8_build_50 rfl ?_
  refine gX8_build_L51 hst fu a0 x3 _ (fun s50 => ?_) fu s13 0
  exact G_vret (pc := 204) dX8_build_204
def fX11_refreshSides_J19 (fu : Nat) (s : z_M) : z_O := some (vN, s)
theorem gX11_refreshSides_J19 {l : Launch} {K : z_K} (hst : l.stackTraces = false) (fu : Nat) (s : z_M) : G l K mX11_refreshSides 6 138 0 0 19 [vU] [] s (fX11_refreshSides_J19 fu s) := by
  unfold fX11_refreshSides_J19
  exact G_vret (pc := 19) dX11_refreshSides_19
def fX11_refreshSides (fu : Nat) (s : z_M) (a0 : Int) : z_O := if z_ob a0 11 then z_let (s a0 18) (fun x1 => if (x1 : Int) ≠ 0 then (fX11_refreshSides_J19 fu s) else (if z_ob a0 11 then z_let (z_gr a0 11) (fun x2 => if z_ob x2 8 then z_bN (fX8_build fu s x2) (fun s3 => if z_ob a0 11 ∧ z_bl 1 then z_let (z_up s3 a0 18 1) (fun s4 => fX11_refreshSides_J19 fu s4) else none) else none) else none)) else none
theorem gX11_refreshSides {l : Launch} {K : z_K} (hst : l.stackTraces = false) (fu : Nat) (s : z_M) (a0 : Int) : z_D l K mX11_refreshSides 6 138 0 0 [vR a0] s (fX11_refreshSides fu s a0) := by
  refine z_D_of (lv := [vR a0]) hst z_mX11_refreshSides rfl ?_ (Nat.le_of_ble_eq_true rfl) rfl
  unfold fX11_refreshSides
  refine G_aload_n (x := a0) (pc := 0) dX11_refreshSides_0 rfl ?_
  refine G_getI (j := 18) (pc := 1) dX11_refreshSides_1 rfl z_CLX11 (by decide) z_wX11_376 (by decide) (fun x1 => ?_)
  refine G_if_ne (tgt := 19) (pc := 4) dX11_refreshSides_4 ?_ ?_
  · refine G_fg (lv2 := [vU]) ⟨Or.inl rfl, trivial⟩ ?_
    exact gX11_refreshSides_J19 hst fu s
  · refine G_aload_n (x := a0) (pc := 7) dX11_refreshSides_7 rfl ?_
    refine G_getR (j := 11) (pc := 8) dX11_refreshSides_8 rfl z_CLX11 (by decide) z_wX11_95 (by decide) (fun x2 => ?_)
    refine G_callVN (as := []) (st := []) (c := 8) (bc2 := 0) (bs2 := 0) (pc := 11) dX11_refreshSides_11 z_mX8_build z_vX8_build z_wX11_379 (gX8_build hst fu s x2) rfl rfl (by decide) rfl rfl ⟨by decide, by decide, by decide, by decide, Nat.le_of_ble_eq_true rfl⟩ rfl (fun s3 => ?_)
    refine G_aload_n (x := a0) (pc := 14) dX11_refreshSides_14 rfl ?_
    refine G_iconst (pc := 15) dX11_refreshSides_15 ?_
    refine G_putZ (j := 18) (pc := 16) dX11_refreshSides_16 rfl z_CLX11 (by decide) z_wX11_376 rfl (by decide) (fun s4 => ?_)
    refine G_fg (lv2 := [vU]) ⟨Or.inl rfl, trivial⟩ ?_
    exact gX11_refreshSides_J19 hst fu s4
def fX11_gutter_J48 (fu : Nat) (s : z_M) (t0 : Int) : z_O := some (vI t0, s)
theorem gX11_gutter_J48 {l : Launch} {K : z_K} (hst : l.stackTraces = false) (fu : Nat) (s : z_M) (t0 : Int) : G l K mX11_gutter 7 172 0 0 48 [vU, vU] [vI t0] s (fX11_gutter_J48 fu s t0) := by
  unfold fX11_gutter_J48
  exact G_iret (pc := 48) dX11_gutter_48
def fX11_gutter (fu : Nat) (s : z_M) (a0 : Int) (a1 : Int) : z_O := if z_ob a0 11 then z_bN (fX11_refresh fu s a0) (fun s1 => if z_ob a0 11 then z_let (z_gr a0 8) (fun x2 => if z_ob x2 1 then z_let (s1 x2 6) (fun x3 => if z_ob a0 11 then z_bN (fX11_needExisting fu s1 a0 a1 x3) (fun s4 => if z_ob a0 11 then z_bN (fX11_refreshSides fu s4 a0) (fun s5 => if z_ob a0 11 then z_let (z_gr a0 8) (fun x6 => if z_ob x6 1 then z_let (s5 x6 6) (fun x7 => z_let (z_w (x7 - 1)) (fun x8 => if (a1 : Int) ≠ x8 then (if z_ob a0 11 then z_let (z_gr a0 11) (fun x9 => if z_ob x9 8 then z_let (z_gr x9 5) (fun x10 => if z_ob x10 7 then z_bI (fX7_get fu s5 x10 a1) (fun x12 s11 => fX11_gutter_J48 fu s11 x12) else none) else none) else none) else (fX11_gutter_J48 fu s5 (-1)))) else none) else none) else none) else none) else none) else none) else none
theorem gX11_gutter {l : Launch} {K : z_K} (hst : l.stackTraces = false) (fu : Nat) (s : z_M) (a0 : Int) (a1 : Int) : z_D l K mX11_gutter 7 172 1 6 [vR a0, vI a1] s (fX11_gutter fu s a0 a1) := by
  refine z_D_of (lv := [vR a0, vI a1]) hst z_mX11_gutter rfl ?_ (Nat.le_of_ble_eq_true rfl) rfl
  unfold fX11_gutter
  refine G_aload_n (x := a0) (pc := 0) dX11_gutter_0 rfl ?_
  refine G_callVN (as := []) (st := []) (c := 11) (bc2 := 1) (bs2 := 6) (pc := 1) dX11_gutter_1 z_mX11_refresh z_vX11_refresh z_wX11_124 (gX11_refresh hst fu s a0) rfl rfl (by decide) rfl rfl ⟨by decide, by decide, by decide, by decide, Nat.le_of_ble_eq_true rfl⟩ rfl (fun s1 => ?_)
  refine G_aload_n (x := a0) (pc := 4) dX11_gutter_4 rfl ?_
  refine G_iload_n (x := a1) (pc := 5) dX11_gutter_5 rfl ?_
  refine G_aload_n (x := a0) (pc := 6) dX11_gutter_6 rfl ?_
  refine G_getR (j := 8) (pc := 7) dX11_gutter_7 rfl z_CLX11 (by decide) z_wX11_74 (by decide) (fun x2 => ?_)
  refine G_getI (j := 6) (pc := 10) dX11_gutter_10 rfl z_CLX1 (by decide) z_wX11_176 (by decide) (fun x3 => ?_)
  refine G_callVN (as := [vI a1, vI x3]) (st := []) (c := 11) (bc2 := 0) (bs2 := 0) (pc := 13) dX11_gutter_13 z_mX11_needExisting z_vX11_needExisting z_wX11_153 (gX11_needExisting hst fu s1 a0 a1 x3) rfl rfl (by decide) rfl rfl ⟨by decide, by decide, by decide, by decide, Nat.le_of_ble_eq_true rfl⟩ rfl (fun s4 => ?_)
  refine G_aload_n (x := a0) (pc := 16) dX11_gutter_16 rfl ?_
  refine G_callVN (as := []) (st := []) (c := 11) (bc2 := 0) (bs2 := 0) (pc := 17) dX11_gutter_17 z_mX11_refreshSides z_vX11_refreshSides z_wX11_335 (gX11_refreshSides hst fu s4 a0) rfl rfl (by decide) rfl rfl ⟨by decide, by decide, by decide, by decide, Nat.le_of_ble_eq_true rfl⟩ rfl (fun s5 => ?_)
  refine G_iload_n (x := a1) (pc := 20) dX11_gutter_20 rfl ?_
  refine G_aload_n (x := a0) (pc := 21) dX11_gutter_21 rfl ?_
  refine G_getR (j := 8) (pc := 22) dX11_gutter_22 rfl z_CLX11 (by decide) z_wX11_74 (by decide) (fun x6 => ?_)
  refine G_getI (j := 6) (pc := 25) dX11_gutter_25 rfl z_CLX1 (by decide) z_wX11_176 (by decide) (fun x7 => ?_)
  refine G_iconst (pc := 28) dX11_gutter_28 ?_
  refine G_isub (pc := 29) dX11_gutter_29 (fun x8 => ?_)
  refine G_icmp_ne (tgt := 37) (pc := 30) dX11_gutter_30 ?_ ?_
  · refine G_aload_n (x := a0) (pc := 37) dX11_gutter_37 rfl ?_
    refine G_getR (j := 11) (pc := 38) dX11_gutter_38 rfl z_CLX11 (by decide) z_wX11_95 (by decide) (fun x9 => ?_)
    refine G_getR (j := 5) (pc := 41) dX11_gutter_41 rfl z_CLX8 (by decide) z_wX11_338 (by decide) (fun x10 => ?_)
    refine G_iload_n (x := a1) (pc := 44) dX11_gutter_44 rfl ?_
    refine G_callVI (as := [vI a1]) (st := []) (c := 7) (bc2 := 0) (bs2 := 0) (pc := 45) dX11_gutter_45 z_mX7_get z_vX7_get z_wX11_143 (gX7_get hst fu s5 x10 a1) rfl rfl (by decide) rfl rfl ⟨by decide, by decide, by decide, by decide, Nat.le_of_ble_eq_true rfl⟩ rfl (fun x12 s11 => ?_)
    refine G_fg (lv2 := [vU, vU]) ⟨Or.inl rfl, Or.inl rfl, trivial⟩ ?_
    exact gX11_gutter_J48 hst fu s11 x12
  · refine G_iconst (pc := 33) dX11_gutter_33 ?_
    refine G_goto (tgt := 48) (pc := 34) dX11_gutter_34 ?_
    refine G_fg (lv2 := [vU, vU]) ⟨Or.inl rfl, Or.inl rfl, trivial⟩ ?_
    exact gX11_gutter_J48 hst fu s5 (-1)
def fX11_clash (fu : Nat) (s : z_M) (a0 : Int) (a1 : Int) : z_O := if z_ob a0 11 then z_bN (fX11_refresh fu s a0) (fun s1 => if z_ob a0 11 then z_let (z_gr a0 8) (fun x2 => if z_ob x2 1 then z_let (s1 x2 6) (fun x3 => if z_ob a0 11 then z_bN (fX11_needExisting fu s1 a0 a1 x3) (fun s4 => if z_ob a0 11 then z_bN (fX11_refreshSides fu s4 a0) (fun s5 => if z_ob a0 11 then z_let (z_gr a0 11) (fun x6 => if z_ob x6 8 then z_let (z_gr x6 4) (fun x7 => if z_ob x7 7 then z_bI (fX7_get fu s5 x7 a1) (fun x9 s8 => some (vI x9, s8)) else none) else none) else none) else none) else none) else none) else none) else none
theorem gX11_clash {l : Launch} {K : z_K} (hst : l.stackTraces = false) (fu : Nat) (s : z_M) (a0 : Int) (a1 : Int) : z_D l K mX11_clash 7 172 1 6 [vR a0, vI a1] s (fX11_clash fu s a0 a1) := by
  refine z_D_of (lv := [vR a0, vI a1]) hst z_mX11_clash rfl ?_ (Nat.le_of_ble_eq_true rfl) rfl
  unfold fX11_clash
  refine G_aload_n (x := a0) (pc := 0) dX11_clash_0 rfl ?_
  refine G_callVN (as := []) (st := []) (c := 11) (bc2 := 1) (bs2 := 6) (pc := 1) dX11_clash_1 z_mX11_refresh z_vX11_refresh z_wX11_124 (gX11_refresh hst fu s a0) rfl rfl (by decide) rfl rfl ⟨by decide, by decide, by decide, by decide, Nat.le_of_ble_eq_true rfl⟩ rfl (fun s1 => ?_)
  refine G_aload_n (x := a0) (pc := 4) dX11_clash_4 rfl ?_
  refine G_iload_n (x := a1) (pc := 5) dX11_clash_5 rfl ?_
  refine G_aload_n (x := a0) (pc := 6) dX11_clash_6 rfl ?_
  refine G_getR (j := 8) (pc := 7) dX11_clash_7 rfl z_CLX11 (by decide) z_wX11_74 (by decide) (fun x2 => ?_)
  refine G_getI (j := 6) (pc := 10) dX11_clash_10 rfl z_CLX1 (by decide) z_wX11_176 (by decide) (fun x3 => ?_)
  refine G_callVN (as := [vI a1, vI x3]) (st := []) (c := 11) (bc2 := 0) (bs2 := 0) (pc := 13) dX11_clash_13 z_mX11_needExisting z_vX11_needExisting z_wX11_153 (gX11_needExisting hst fu s1 a0 a1 x3) rfl rfl (by decide) rfl rfl ⟨by decide, by decide, by decide, by decide, Nat.le_of_ble_eq_true rfl⟩ rfl (fun s4 => ?_)
  refine G_aload_n (x := a0) (pc := 16) dX11_clash_16 rfl ?_
  refine G_callVN (as := []) (st := []) (c := 11) (bc2 := 0) (bs2 := 0) (pc := 17) dX11_clash_17 z_mX11_refreshSides z_vX11_refreshSides z_wX11_335 (gX11_refreshSides hst fu s4 a0) rfl rfl (by decide) rfl rfl ⟨by decide, by decide, by decide, by decide, Nat.le_of_ble_eq_true rfl⟩ rfl (fun s5 => ?_)
  refine G_aload_n (x := a0) (pc := 20) dX11_clash_20 rfl ?_
  refine G_getR (j := 11) (pc := 21) dX11_clash_21 rfl z_CLX11 (by decide) z_wX11_95 (by decide) (fun x6 => ?_)
  refine G_getR (j := 4) (pc := 24) dX11_clash_24 rfl z_CLX8 (by decide) z_wX11_341 (by decide) (fun x7 => ?_)
  refine G_iload_n (x := a1) (pc := 27) dX11_clash_27 rfl ?_
  refine G_callVI (as := [vI a1]) (st := []) (c := 7) (bc2 := 0) (bs2 := 0) (pc := 28) dX11_clash_28 z_mX7_get z_vX7_get z_wX11_143 (gX7_get hst fu s5 x7 a1) rfl rfl (by decide) rfl rfl ⟨by decide, by decide, by decide, by decide, Nat.le_of_ble_eq_true rfl⟩ rfl (fun x9 s8 => ?_)
  exact G_iret (pc := 31) dX11_clash_31
def fX8_thickOf (fu : Nat) (s : z_M) (a0 : Int) (a1 : Int) (a2 : Int) : z_O := if z_ob a0 8 then z_let (z_gr a0 6) (fun x1 => if z_ob x1 7 then z_bI (fX7_get fu s x1 a2) (fun x3 s2 => if z_ob a0 8 then z_let (z_gr a0 6) (fun x4 => if z_ob x4 7 then z_bI (fX7_get fu s2 x4 a1) (fun x6 s5 => z_let (z_w (x3 - x6)) (fun x7 => z_let (z_w (a2 - a1)) (fun x8 => z_let (z_w (x8 + 1)) (fun x9 => z_let (z_w (12 * x9)) (fun x10 => z_let (z_w (x10 + x7)) (fun x11 => if z_ob a0 8 then z_let (z_gr a0 7) (fun x12 => if z_ob x12 7 then z_bI (fX7_get fu s5 x12 a1) (fun x14 s13 => z_let (z_w (x11 + x14)) (fun x15 => if z_ob a0 8 then z_let (z_gr a0 8) (fun x16 => if z_ob x16 7 then z_bI (fX7_get fu s13 x16 a2) (fun x18 s17 => z_let (z_w (x15 + x18)) (fun x19 => some (vI x19, s17))) else none) else none)) else none) else none)))))) else none) else none) else none) else none
theorem gX8_thickOf {l : Launch} {K : z_K} (hst : l.stackTraces = false) (fu : Nat) (s : z_M) (a0 : Int) (a1 : Int) (a2 : Int) : z_D l K mX8_thickOf 1 21 0 0 [vR a0, vI a1, vI a2] s (fX8_thickOf fu s a0 a1 a2) := by
  refine z_D_of (lv := [vR a0, vI a1, vI a2, vU]) hst z_mX8_thickOf rfl ?_ (Nat.le_of_ble_eq_true rfl) rfl
  unfold fX8_thickOf
  refine G_aload_n (x := a0) (pc := 0) dX8_thickOf_0 rfl ?_
  refine G_getR (j := 6) (pc := 1) dX8_thickOf_1 rfl z_CLX8 (by decide) z_wX8_26 (by decide) (fun x1 => ?_)
  refine G_iload_n (x := a2) (pc := 4) dX8_thickOf_4 rfl ?_
  refine G_callVI (as := [vI a2]) (st := []) (c := 7) (bc2 := 0) (bs2 := 0) (pc := 5) dX8_thickOf_5 z_mX7_get z_vX7_get z_wX8_69 (gX7_get hst fu s x1 a2) rfl rfl (by decide) rfl rfl ⟨by decide, by decide, by decide, by decide, Nat.le_of_ble_eq_true rfl⟩ rfl (fun x3 s2 => ?_)
  refine G_aload_n (x := a0) (pc := 8) dX8_thickOf_8 rfl ?_
  refine G_getR (j := 6) (pc := 9) dX8_thickOf_9 rfl z_CLX8 (by decide) z_wX8_26 (by decide) (fun x4 => ?_)
  refine G_iload_n (x := a1) (pc := 12) dX8_thickOf_12 rfl ?_
  refine G_callVI (as := [vI a1]) (st := [vI x3]) (c := 7) (bc2 := 0) (bs2 := 0) (pc := 13) dX8_thickOf_13 z_mX7_get z_vX7_get z_wX8_69 (gX7_get hst fu s2 x4 a1) rfl rfl (by decide) rfl rfl ⟨by decide, by decide, by decide, by decide, Nat.le_of_ble_eq_true rfl⟩ rfl (fun x6 s5 => ?_)
  refine G_isub (pc := 16) dX8_thickOf_16 (fun x7 => ?_)
  refine G_istore_n (lv' := [vR a0, vI a1, vI a2, vI x7]) (pc := 17) dX8_thickOf_17 rfl ?_
  refine G_bipush (pc := 18) dX8_thickOf_18 ?_
  refine G_iload_n (x := a2) (pc := 20) dX8_thickOf_20 rfl ?_
  refine G_iload_n (x := a1) (pc := 21) dX8_thickOf_21 rfl ?_
  refine G_isub (pc := 22) dX8_thickOf_22 (fun x8 => ?_)
  refine G_iconst (pc := 23) dX8_thickOf_23 ?_
  refine G_iadd (pc := 24) dX8_thickOf_24 (fun x9 => ?_)
  refine G_imul (pc := 25) dX8_thickOf_25 (fun x10 => ?_)
  refine G_iload_n (x := x7) (pc := 26) dX8_thickOf_26 rfl ?_
  refine G_iadd (pc := 27) dX8_thickOf_27 (fun x11 => ?_)
  refine G_aload_n (x := a0) (pc := 28) dX8_thickOf_28 rfl ?_
  refine G_getR (j := 7) (pc := 29) dX8_thickOf_29 rfl z_CLX8 (by decide) z_wX8_29 (by decide) (fun x12 => ?_)
  refine G_iload_n (x := a1) (pc := 32) dX8_thickOf_32 rfl ?_
  refine G_callVI (as := [vI a1]) (st := [vI x11]) (c := 7) (bc2 := 0) (bs2 := 0) (pc := 33) dX8_thickOf_33 z_mX7_get z_vX7_get z_wX8_69 (gX7_get hst fu s5 x12 a1) rfl rfl (by decide) rfl rfl ⟨by decide, by decide, by decide, by decide, Nat.le_of_ble_eq_true rfl⟩ rfl (fun x14 s13 => ?_)
  refine G_iadd (pc := 36) dX8_thickOf_36 (fun x15 => ?_)
  refine G_aload_n (x := a0) (pc := 37) dX8_thickOf_37 rfl ?_
  refine G_getR (j := 8) (pc := 38) dX8_thickOf_38 rfl z_CLX8 (by decide) z_wX8_32 (by decide) (fun x16 => ?_)
  refine G_iload_n (x := a2) (pc := 41) dX8_thickOf_41 rfl ?_
  refine G_callVI (as := [vI a2]) (st := [vI x15]) (c := 7) (bc2 := 0) (bs2 := 0) (pc := 42) dX8_thickOf_42 z_mX7_get z_vX7_get z_wX8_69 (gX7_get hst fu s13 x16 a2) rfl rfl (by decide) rfl rfl ⟨by decide, by decide, by decide, by decide, Nat.le_of_ble_eq_true rfl⟩ rfl (fun x18 s17 => ?_)
  refine G_iadd (pc := 45) dX8_thickOf_45 (fun x19 => ?_)
  exact G_iret (pc := 46) dX8_thickOf_46
def fX11_thick (fu : Nat) (s : z_M) (a0 : Int) (a1 : Int) (a2 : Int) : z_O := if z_ob a0 11 then z_bN (fX11_refresh fu s a0) (fun s1 => if z_ob a0 11 then z_let (z_gr a0 8) (fun x2 => if z_ob x2 1 then z_let (s1 x2 6) (fun x3 => if z_ob a0 11 then z_bN (fX11_needExisting fu s1 a0 a1 x3) (fun s4 => if z_ob a0 11 then z_let (z_gr a0 8) (fun x5 => if z_ob x5 1 then z_let (s4 x5 6) (fun x6 => if z_ob a0 11 then z_bN (fX11_needExisting fu s4 a0 a2 x6) (fun s7 => if z_ob a0 11 then z_let (z_gr a0 8) (fun x8 => if z_ob x8 1 then z_let (s7 x8 6) (fun x9 => if z_ob a0 11 then z_bN (fX11_needWithin fu s7 a0 a2 a1 x9) (fun s10 => if z_ob a0 11 then z_bN (fX11_refreshSides fu s10 a0) (fun s11 => if z_ob a0 11 then z_let (z_gr a0 11) (fun x12 => if z_ob x12 8 then z_bI (fX8_thickOf fu s11 x12 a1 a2) (fun x14 s13 => some (vI x14, s13)) else none) else none) else none) else none) else none) else none) else none) else none) else none) else none) else none) else none) else none
theorem gX11_thick {l : Launch} {K : z_K} (hst : l.stackTraces = false) (fu : Nat) (s : z_M) (a0 : Int) (a1 : Int) (a2 : Int) : z_D l K mX11_thick 7 172 3 18 [vR a0, vI a1, vI a2] s (fX11_thick fu s a0 a1 a2) := by
  refine z_D_of (lv := [vR a0, vI a1, vI a2]) hst z_mX11_thick rfl ?_ (Nat.le_of_ble_eq_true rfl) rfl
  unfold fX11_thick
  refine G_aload_n (x := a0) (pc := 0) dX11_thick_0 rfl ?_
  refine G_callVN (as := []) (st := []) (c := 11) (bc2 := 3) (bs2 := 18) (pc := 1) dX11_thick_1 z_mX11_refresh z_vX11_refresh z_wX11_124 (gX11_refresh hst fu s a0) rfl rfl (by decide) rfl rfl ⟨by decide, by decide, by decide, by decide, Nat.le_of_ble_eq_true rfl⟩ rfl (fun s1 => ?_)
  refine G_aload_n (x := a0) (pc := 4) dX11_thick_4 rfl ?_
  refine G_iload_n (x := a1) (pc := 5) dX11_thick_5 rfl ?_
  refine G_aload_n (x := a0) (pc := 6) dX11_thick_6 rfl ?_
  refine G_getR (j := 8) (pc := 7) dX11_thick_7 rfl z_CLX11 (by decide) z_wX11_74 (by decide) (fun x2 => ?_)
  refine G_getI (j := 6) (pc := 10) dX11_thick_10 rfl z_CLX1 (by decide) z_wX11_176 (by decide) (fun x3 => ?_)
  refine G_callVN (as := [vI a1, vI x3]) (st := []) (c := 11) (bc2 := 2) (bs2 := 12) (pc := 13) dX11_thick_13 z_mX11_needExisting z_vX11_needExisting z_wX11_153 (gX11_needExisting hst fu s1 a0 a1 x3) rfl rfl (by decide) rfl rfl ⟨by decide, by decide, by decide, by decide, Nat.le_of_ble_eq_true rfl⟩ rfl (fun s4 => ?_)
  refine G_aload_n (x := a0) (pc := 16) dX11_thick_16 rfl ?_
  refine G_iload_n (x := a2) (pc := 17) dX11_thick_17 rfl ?_
  refine G_aload_n (x := a0) (pc := 18) dX11_thick_18 rfl ?_
  refine G_getR (j := 8) (pc := 19) dX11_thick_19 rfl z_CLX11 (by decide) z_wX11_74 (by decide) (fun x5 => ?_)
  refine G_getI (j := 6) (pc := 22) dX11_thick_22 rfl z_CLX1 (by decide) z_wX11_176 (by decide) (fun x6 => ?_)
  refine G_callVN (as := [vI a2, vI x6]) (st := []) (c := 11) (bc2 := 1) (bs2 := 6) (pc := 25) dX11_thick_25 z_mX11_needExisting z_vX11_needExisting z_wX11_153 (gX11_needExisting hst fu s4 a0 a2 x6) rfl rfl (by decide) rfl rfl ⟨by decide, by decide, by decide, by decide, Nat.le_of_ble_eq_true rfl⟩ rfl (fun s7 => ?_)
  refine G_aload_n (x := a0) (pc := 28) dX11_thick_28 rfl ?_
  refine G_iload_n (x := a2) (pc := 29) dX11_thick_29 rfl ?_
  refine G_iload_n (x := a1) (pc := 30) dX11_thick_30 rfl ?_
  refine G_aload_n (x := a0) (pc := 31) dX11_thick_31 rfl ?_
  refine G_getR (j := 8) (pc := 32) dX11_thick_32 rfl z_CLX11 (by decide) z_wX11_74 (by decide) (fun x8 => ?_)
  refine G_getI (j := 6) (pc := 35) dX11_thick_35 rfl z_CLX1 (by decide) z_wX11_176 (by decide) (fun x9 => ?_)
  refine G_callVN (as := [vI a2, vI a1, vI x9]) (st := []) (c := 11) (bc2 := 0) (bs2 := 0) (pc := 38) dX11_thick_38 z_mX11_needWithin z_vX11_needWithin z_wX11_113 (gX11_needWithin hst fu s7 a0 a2 a1 x9) rfl rfl (by decide) rfl rfl ⟨by decide, by decide, by decide, by decide, Nat.le_of_ble_eq_true rfl⟩ rfl (fun s10 => ?_)
  refine G_aload_n (x := a0) (pc := 41) dX11_thick_41 rfl ?_
  refine G_callVN (as := []) (st := []) (c := 11) (bc2 := 0) (bs2 := 0) (pc := 42) dX11_thick_42 z_mX11_refreshSides z_vX11_refreshSides z_wX11_335 (gX11_refreshSides hst fu s10 a0) rfl rfl (by decide) rfl rfl ⟨by decide, by decide, by decide, by decide, Nat.le_of_ble_eq_true rfl⟩ rfl (fun s11 => ?_)
  refine G_aload_n (x := a0) (pc := 45) dX11_thick_45 rfl ?_
  refine G_getR (j := 11) (pc := 46) dX11_thick_46 rfl z_CLX11 (by decide) z_wX11_95 (by decide) (fun x12 => ?_)
  refine G_iload_n (x := a1) (pc := 49) dX11_thick_49 rfl ?_
  refine G_iload_n (x := a2) (pc := 50) dX11_thick_50 rfl ?_
  refine G_callVI (as := [vI a1, vI a2]) (st := []) (c := 8) (bc2 := 0) (bs2 := 0) (pc := 51) dX11_thick_51 z_mX8_thickOf z_vX8_thickOf z_wX11_344 (gX8_thickOf hst fu s11 x12 a1 a2) rfl rfl (by decide) rfl rfl ⟨by decide, by decide, by decide, by decide, Nat.le_of_ble_eq_true rfl⟩ rfl (fun x14 s13 => ?_)
  exact G_iret (pc := 54) dX11_thick_54
def fX8_pageEnd_L2 (fu : Nat) (a0 : Int) (a1 : Int) (a2 : Int) : Nat → z_M → Int → (z_M → Int → z_O) → z_O
  | 0, _, _, _ => none
  | F + 1, s, a3, k => z_let (z_w (a3 + 1)) (fun x1 => if z_ob a0 8 then z_let (z_gr a0 0) (fun x2 => if z_ob x2 3 then z_bI (fX3_lineCount fu s x2) (fun x4 s3 => if (x4 : Int) ≤ x1 then (k s3 a3) else (z_let (z_w (a3 + 1)) (fun x5 => if z_ob a0 8 then z_bI (fX8_thickOf fu s3 a0 a1 x5) (fun x7 s6 => if (a2 : Int) < x7 then (k s6 a3) else (z_let (z_w (a3 + 1)) (fun x8 => fX8_pageEnd_L2 fu a0 a1 a2 F s6 x8 k))) else none))) else none) else none)
theorem gX8_pageEnd_L2 {l : Launch} {K : z_K} (hst : l.stackTraces = false) (fu : Nat) (a0 : Int) (a1 : Int) (a2 : Int) (k : z_M → Int → z_O) (hk : ∀ (s : z_M) (a3 : Int), G l K mX8_pageEnd 2 44 0 0 33 [vU, vU, vU, vI a3] [] s (k s a3)) : ∀ (F : Nat) (s : z_M) (a3 : Int), G l K mX8_pageEnd 2 44 0 0 2 [vR a0, vI a1, vI a2, vI a3] [] s (fX8_pageEnd_L2 fu a0 a1 a2 F s a3 k) := by
  intro F
  induction F with
  | zero => exact fun s a3 h => absurd rfl h
  | succ F ih =>
    intro s a3
    rw [fX8_pageEnd_L2]
    refine G_iload_n (x := a3) (pc := 2) dX8_pageEnd_2 rfl ?_
    refine G_iconst (pc := 3) dX8_pageEnd_3 ?_
    refine G_iadd (pc := 4) dX8_pageEnd_4 (fun x1 => ?_)
    refine G_aload_n (x := a0) (pc := 5) dX8_pageEnd_5 rfl ?_
    refine G_getR (j := 0) (pc := 6) dX8_pageEnd_6 rfl z_CLX8 (by decide) z_wX8_35 (by decide) (fun x2 => ?_)
    refine G_callVI (as := []) (st := [vI x1]) (c := 3) (bc2 := 0) (bs2 := 0) (pc := 9) dX8_pageEnd_9 z_mX3_lineCount z_vX3_lineCount z_wX8_46 (gX3_lineCount hst fu s x2) rfl rfl (by decide) rfl rfl ⟨by decide, by decide, by decide, by decide, Nat.le_of_ble_eq_true rfl⟩ rfl (fun x4 s3 => ?_)
    refine G_icmp_ge (tgt := 33) (pc := 12) dX8_pageEnd_12 ?_ ?_
    · refine G_fg (lv2 := [vU, vU, vU, vI a3]) ⟨Or.inl rfl, Or.inl rfl, Or.inl rfl, Or.inr rfl, trivial⟩ ?_
      exact hk s3 a3
    · refine G_aload_n (x := a0) (pc := 15) dX8_pageEnd_15 rfl ?_
      refine G_iload_n (x := a1) (pc := 16) dX8_pageEnd_16 rfl ?_
      refine G_iload_n (x := a3) (pc := 17) dX8_pageEnd_17 rfl ?_
      refine G_iconst (pc := 18) dX8_pageEnd_18 ?_
      refine G_iadd (pc := 19) dX8_pageEnd_19 (fun x5 => ?_)
      refine G_callVI (as := [vI a1, vI x5]) (st := []) (c := 8) (bc2 := 0) (bs2 := 0) (pc := 20) dX8_pageEnd_20 z_mX8_thickOf z_vX8_thickOf z_wX8_117 (gX8_thickOf hst fu s3 a0 a1 x5) rfl rfl (by decide) rfl rfl ⟨by decide, by decide, by decide, by decide, Nat.le_of_ble_eq_true rfl⟩ rfl (fun x7 s6 => ?_)
      refine G_iload_n (x := a2) (pc := 23) dX8_pageEnd_23 rfl ?_
      refine G_icmp_gt (tgt := 33) (pc := 24) dX8_pageEnd_24 ?_ ?_
      · refine G_fg (lv2 := [vU, vU, vU, vI a3]) ⟨Or.inl rfl, Or.inl rfl, Or.inl rfl, Or.inr rfl, trivial⟩ ?_
        exact hk s6 a3
      · refine G_iinc (x := a3) (g := fun x8 => [vR a0, vI a1, vI a2, vI x8]) (pc := 27) dX8_pageEnd_27 rfl (fun _ => rfl) (fun x8 => ?_)
        refine G_goto (tgt := 2) (pc := 30) dX8_pageEnd_30 ?_
        exact ih s6 x8
def fX8_pageEnd_J33 (fu : Nat) (s : z_M) (a3 : Int) : z_O := some (vI a3, s)
theorem gX8_pageEnd_J33 {l : Launch} {K : z_K} (hst : l.stackTraces = false) (fu : Nat) (s : z_M) (a3 : Int) : G l K mX8_pageEnd 2 44 0 0 33 [vU, vU, vU, vI a3] [] s (fX8_pageEnd_J33 fu s a3) := by
  unfold fX8_pageEnd_J33
  refine G_iload_n (x := a3) (pc := 33) dX8_pageEnd_33 rfl ?_
  exact G_iret (pc := 34) dX8_pageEnd_34
def fX8_pageEnd (fu : Nat) (s : z_M) (a0 : Int) (a1 : Int) (a2 : Int) : z_O := fX8_pageEnd_L2 fu a0 a1 a2 fu s a1 (fun s9 x10 => fX8_pageEnd_J33 fu s9 x10)
theorem gX8_pageEnd {l : Launch} {K : z_K} (hst : l.stackTraces = false) (fu : Nat) (s : z_M) (a0 : Int) (a1 : Int) (a2 : Int) : z_D l K mX8_pageEnd 2 44 0 0 [vR a0, vI a1, vI a2] s (fX8_pageEnd fu s a0 a1 a2) := by
  refine z_D_of (lv := [vR a0, vI a1, vI a2, vU]) hst z_mX8_pageEnd rfl ?_ (Nat.le_of_ble_eq_true rfl) rfl
  unfold fX8_pageEnd
  refine G_iload_n (x := a1) (pc := 0) dX8_pageEnd_0 rfl ?_
  refine G_istore_n (lv' := [vR a0, vI a1, vI a2, vI a1]) (pc := 1) dX8_pageEnd_1 rfl ?_
  refine gX8_pageEnd_L2 hst fu a0 a1 a2 _ (fun s9 x10 => ?_) fu s a1
  exact gX8_pageEnd_J33 hst fu s9 x10
def fX8_pageCount_L4 (fu : Nat) (a0 : Int) (a1 : Int) : Nat → z_M → Int → Int → (z_M → Int → z_O) → z_O
  | 0, _, _, _, _ => none
  | F + 1, s, a2, a3, k => if z_ob a0 8 then z_let (z_gr a0 0) (fun x1 => if z_ob x1 3 then z_bI (fX3_lineCount fu s x1) (fun x3 s2 => if (x3 : Int) ≤ a3 then (k s2 a2) else (if z_ob a0 8 then z_bI (fX8_pageEnd fu s2 a0 a3 a1) (fun x5 s4 => z_let (z_max a3 x5) (fun x6 => z_let (z_w (x6 + 1)) (fun x7 => z_let (z_w (a2 + 1)) (fun x8 => fX8_pageCount_L4 fu a0 a1 F s4 x8 x7 k)))) else none)) else none) else none
theorem gX8_pageCount_L4 {l : Launch} {K : z_K} (hst : l.stackTraces = false) (fu : Nat) (a0 : Int) (a1 : Int) (k : z_M → Int → z_O) (hk : ∀ (s : z_M) (a2 : Int), G l K mX8_pageCount 3 67 0 0 34 [vU, vU, vI a2, vU] [] s (k s a2)) : ∀ (F : Nat) (s : z_M) (a2 : Int) (a3 : Int), G l K mX8_pageCount 3 67 0 0 4 [vR a0, vI a1, vI a2, vI a3] [] s (fX8_pageCount_L4 fu a0 a1 F s a2 a3 k) := by
  intro F
  induction F with
  | zero => exact fun s a2 a3 h => absurd rfl h
  | succ F ih =>
    intro s a2 a3
    rw [fX8_pageCount_L4]
    refine G_iload_n (x := a3) (pc := 4) dX8_pageCount_4 rfl ?_
    refine G_aload_n (x := a0) (pc := 5) dX8_pageCount_5 rfl ?_
    refine G_getR (j := 0) (pc := 6) dX8_pageCount_6 rfl z_CLX8 (by decide) z_wX8_35 (by decide) (fun x1 => ?_)
    refine G_callVI (as := []) (st := [vI a3]) (c := 3) (bc2 := 0) (bs2 := 0) (pc := 9) dX8_pageCount_9 z_mX3_lineCount z_vX3_lineCount z_wX8_46 (gX3_lineCount hst fu s x1) rfl rfl (by decide) rfl rfl ⟨by decide, by decide, by decide, by decide, Nat.le_of_ble_eq_true rfl⟩ rfl (fun x3 s2 => ?_)
    refine G_icmp_ge (tgt := 34) (pc := 12) dX8_pageCount_12 ?_ ?_
    · refine G_fg (lv2 := [vU, vU, vI a2, vU]) ⟨Or.inl rfl, Or.inl rfl, Or.inr rfl, Or.inl rfl, trivial⟩ ?_
      exact hk s2 a2
    · refine G_iload_n (x := a3) (pc := 15) dX8_pageCount_15 rfl ?_
      refine G_aload_n (x := a0) (pc := 16) dX8_pageCount_16 rfl ?_
      refine G_iload_n (x := a3) (pc := 17) dX8_pageCount_17 rfl ?_
      refine G_iload_n (x := a1) (pc := 18) dX8_pageCount_18 rfl ?_
      refine G_callVI (as := [vI a3, vI a1]) (st := [vI a3]) (c := 8) (bc2 := 0) (bs2 := 0) (pc := 19) dX8_pageCount_19 z_mX8_pageEnd z_vX8_pageEnd z_wX8_120 (gX8_pageEnd hst fu s2 a0 a3 a1) rfl rfl (by decide) rfl rfl ⟨by decide, by decide, by decide, by decide, Nat.le_of_ble_eq_true rfl⟩ rfl (fun x5 s4 => ?_)
      refine G_mmax (pc := 22) dX8_pageCount_22 z_wX8_73 (fun x6 => ?_) (Nat.le_of_ble_eq_true rfl)
      refine G_iconst (pc := 25) dX8_pageCount_25 ?_
      refine G_iadd (pc := 26) dX8_pageCount_26 (fun x7 => ?_)
      refine G_istore_n (lv' := [vR a0, vI a1, vI a2, vI x7]) (pc := 27) dX8_pageCount_27 rfl ?_
      refine G_iinc (x := a2) (g := fun x8 => [vR a0, vI a1, vI x8, vI x7]) (pc := 28) dX8_pageCount_28 rfl (fun _ => rfl) (fun x8 => ?_)
      refine G_goto (tgt := 4) (pc := 31) dX8_pageCount_31 ?_
      exact ih s4 x8 x7
def fX8_pageCount (fu : Nat) (s : z_M) (a0 : Int) (a1 : Int) : z_O := fX8_pageCount_L4 fu a0 a1 fu s 0 0 (fun s9 x10 => some (vI x10, s9))
theorem gX8_pageCount {l : Launch} {K : z_K} (hst : l.stackTraces = false) (fu : Nat) (s : z_M) (a0 : Int) (a1 : Int) : z_D l K mX8_pageCount 3 67 0 0 [vR a0, vI a1] s (fX8_pageCount fu s a0 a1) := by
  refine z_D_of (lv := [vR a0, vI a1, vU, vU]) hst z_mX8_pageCount rfl ?_ (Nat.le_of_ble_eq_true rfl) rfl
  unfold fX8_pageCount
  refine G_iconst (pc := 0) dX8_pageCount_0 ?_
  refine G_istore_n (lv' := [vR a0, vI a1, vI 0, vU]) (pc := 1) dX8_pageCount_1 rfl ?_
  refine G_iconst (pc := 2) dX8_pageCount_2 ?_
  refine G_istore_n (lv' := [vR a0, vI a1, vI 0, vI 0]) (pc := 3) dX8_pageCount_3 rfl ?_
  refine gX8_pageCount_L4 hst fu a0 a1 _ (fun s9 x10 => ?_) fu s 0 0
  refine G_iload_n (x := x10) (pc := 34) dX8_pageCount_34 rfl ?_
  exact G_iret (pc := 35) dX8_pageCount_35
def fX11_pages (fu : Nat) (s : z_M) (a0 : Int) (a1 : Int) : z_O := if z_ob a0 11 then z_bN (fX11_needWithin fu s a0 a1 12 9999) (fun s1 => if z_ob a0 11 then z_bN (fX11_refresh fu s1 a0) (fun s2 => if z_ob a0 11 then z_bN (fX11_refreshSides fu s2 a0) (fun s3 => if z_ob a0 11 then z_let (z_gr a0 11) (fun x4 => if z_ob x4 8 then z_bI (fX8_pageCount fu s3 x4 a1) (fun x6 s5 => some (vI x6, s5)) else none) else none) else none) else none) else none
theorem gX11_pages {l : Launch} {K : z_K} (hst : l.stackTraces = false) (fu : Nat) (s : z_M) (a0 : Int) (a1 : Int) : z_D l K mX11_pages 7 172 1 6 [vR a0, vI a1] s (fX11_pages fu s a0 a1) := by
  refine z_D_of (lv := [vR a0, vI a1]) hst z_mX11_pages rfl ?_ (Nat.le_of_ble_eq_true rfl) rfl
  unfold fX11_pages
  refine G_aload_n (x := a0) (pc := 0) dX11_pages_0 rfl ?_
  refine G_iload_n (x := a1) (pc := 1) dX11_pages_1 rfl ?_
  refine G_bipush (pc := 2) dX11_pages_2 ?_
  refine G_sipush (pc := 4) dX11_pages_4 ?_
  refine G_callVN (as := [vI a1, vI 12, vI 9999]) (st := []) (c := 11) (bc2 := 0) (bs2 := 0) (pc := 7) dX11_pages_7 z_mX11_needWithin z_vX11_needWithin z_wX11_113 (gX11_needWithin hst fu s a0 a1 12 9999) rfl rfl (by decide) rfl rfl ⟨by decide, by decide, by decide, by decide, Nat.le_of_ble_eq_true rfl⟩ rfl (fun s1 => ?_)
  refine G_aload_n (x := a0) (pc := 10) dX11_pages_10 rfl ?_
  refine G_callVN (as := []) (st := []) (c := 11) (bc2 := 0) (bs2 := 0) (pc := 11) dX11_pages_11 z_mX11_refresh z_vX11_refresh z_wX11_124 (gX11_refresh hst fu s1 a0) rfl rfl (by decide) rfl rfl ⟨by decide, by decide, by decide, by decide, Nat.le_of_ble_eq_true rfl⟩ rfl (fun s2 => ?_)
  refine G_aload_n (x := a0) (pc := 14) dX11_pages_14 rfl ?_
  refine G_callVN (as := []) (st := []) (c := 11) (bc2 := 0) (bs2 := 0) (pc := 15) dX11_pages_15 z_mX11_refreshSides z_vX11_refreshSides z_wX11_335 (gX11_refreshSides hst fu s2 a0) rfl rfl (by decide) rfl rfl ⟨by decide, by decide, by decide, by decide, Nat.le_of_ble_eq_true rfl⟩ rfl (fun s3 => ?_)
  refine G_aload_n (x := a0) (pc := 18) dX11_pages_18 rfl ?_
  refine G_getR (j := 11) (pc := 19) dX11_pages_19 rfl z_CLX11 (by decide) z_wX11_95 (by decide) (fun x4 => ?_)
  refine G_iload_n (x := a1) (pc := 22) dX11_pages_22 rfl ?_
  refine G_callVI (as := [vI a1]) (st := []) (c := 8) (bc2 := 0) (bs2 := 0) (pc := 23) dX11_pages_23 z_mX8_pageCount z_vX8_pageCount z_wX11_347 (gX8_pageCount hst fu s3 x4 a1) rfl rfl (by decide) rfl rfl ⟨by decide, by decide, by decide, by decide, Nat.le_of_ble_eq_true rfl⟩ rfl (fun x6 s5 => ?_)
  exact G_iret (pc := 26) dX11_pages_26
def fX11_page_L45 (fu : Nat) (a0 : Int) (a1 : Int) (a2 : Int) (a3 : Int) : Nat → z_M → Int → Int → (z_M → Int → z_O) → z_O
  | 0, _, _, _, _ => none
  | F + 1, s, a4, a5, k => if (a2 : Int) ≤ a5 then (k s a4) else (if z_ob a0 11 then z_let (z_gr a0 8) (fun x5 => if z_ob x5 1 then z_let (s x5 6) (fun x6 => if (x6 : Int) ≤ a4 then (k s a4) else (if z_ob a0 11 then z_let (z_gr a0 11) (fun x7 => if z_ob x7 8 then z_bI (fX8_pageEnd fu s x7 a4 a1) (fun x9 s8 => z_let (z_w (x9 + 1)) (fun x10 => z_let (z_w (a5 + 1)) (fun x11 => fX11_page_L45 fu a0 a1 a2 a3 F s8 x10 x11 k))) else none) else none)) else none) else none)
theorem gX11_page_L45 {l : Launch} {K : z_K} (hst : l.stackTraces = false) (fu : Nat) (a0 : Int) (a1 : Int) (a2 : Int) (a3 : Int) (k : z_M → Int → z_O) (hk : ∀ (s : z_M) (a4 : Int), G l K mX11_page 7 172 0 0 83 [vR a0, vI a1, vU, vI a3, vI a4, vU] [] s (k s a4)) : ∀ (F : Nat) (s : z_M) (a4 : Int) (a5 : Int), G l K mX11_page 7 172 0 0 45 [vR a0, vI a1, vI a2, vI a3, vI a4, vI a5] [] s (fX11_page_L45 fu a0 a1 a2 a3 F s a4 a5 k) := by
  intro F
  induction F with
  | zero => exact fun s a4 a5 h => absurd rfl h
  | succ F ih =>
    intro s a4 a5
    rw [fX11_page_L45]
    refine G_iload (x := a5) (pc := 45) dX11_page_45 rfl ?_
    refine G_iload_n (x := a2) (pc := 47) dX11_page_47 rfl ?_
    refine G_icmp_ge (tgt := 83) (pc := 48) dX11_page_48 ?_ ?_
    · refine G_fg (lv2 := [vR a0, vI a1, vU, vI a3, vI a4, vU]) ⟨Or.inr rfl, Or.inr rfl, Or.inl rfl, Or.inr rfl, Or.inr rfl, Or.inl rfl, trivial⟩ ?_
      exact hk s a4
    · refine G_iload (x := a4) (pc := 51) dX11_page_51 rfl ?_
      refine G_aload_n (x := a0) (pc := 53) dX11_page_53 rfl ?_
      refine G_getR (j := 8) (pc := 54) dX11_page_54 rfl z_CLX11 (by decide) z_wX11_74 (by decide) (fun x5 => ?_)
      refine G_getI (j := 6) (pc := 57) dX11_page_57 rfl z_CLX1 (by decide) z_wX11_176 (by decide) (fun x6 => ?_)
      refine G_icmp_ge (tgt := 83) (pc := 60) dX11_page_60 ?_ ?_
      · refine G_fg (lv2 := [vR a0, vI a1, vU, vI a3, vI a4, vU]) ⟨Or.inr rfl, Or.inr rfl, Or.inl rfl, Or.inr rfl, Or.inr rfl, Or.inl rfl, trivial⟩ ?_
        exact hk s a4
      · refine G_aload_n (x := a0) (pc := 63) dX11_page_63 rfl ?_
        refine G_getR (j := 11) (pc := 64) dX11_page_64 rfl z_CLX11 (by decide) z_wX11_95 (by decide) (fun x7 => ?_)
        refine G_iload (x := a4) (pc := 67) dX11_page_67 rfl ?_
        refine G_iload_n (x := a1) (pc := 69) dX11_page_69 rfl ?_
        refine G_callVI (as := [vI a4, vI a1]) (st := []) (c := 8) (bc2 := 0) (bs2 := 0) (pc := 70) dX11_page_70 z_mX8_pageEnd z_vX8_pageEnd z_wX11_350 (gX8_pageEnd hst fu s x7 a4 a1) rfl rfl (by decide) rfl rfl ⟨by decide, by decide, by decide, by decide, Nat.le_of_ble_eq_true rfl⟩ rfl (fun x9 s8 => ?_)
        refine G_iconst (pc := 73) dX11_page_73 ?_
        refine G_iadd (pc := 74) dX11_page_74 (fun x10 => ?_)
        refine G_istore (lv' := [vR a0, vI a1, vI a2, vI a3, vI x10, vI a5]) (pc := 75) dX11_page_75 rfl ?_
        refine G_iinc (x := a5) (g := fun x11 => [vR a0, vI a1, vI a2, vI a3, vI x10, vI x11]) (pc := 77) dX11_page_77 rfl (fun _ => rfl) (fun x11 => ?_)
        refine G_goto (tgt := 45) (pc := 80) dX11_page_80 ?_
        exact ih s8 x10 x11
def fX11_page_J144 (fu : Nat) (s : z_M) (t0 : Int) : z_O := some (vI t0, s)
theorem gX11_page_J144 {l : Launch} {K : z_K} (hst : l.stackTraces = false) (fu : Nat) (s : z_M) (t0 : Int) : G l K mX11_page 7 172 0 0 144 [vU, vU, vU, vU, vU, vU] [vI t0] s (fX11_page_J144 fu s t0) := by
  unfold fX11_page_J144
  exact G_iret (pc := 144) dX11_page_144
def fX11_page_J83 (fu : Nat) (s : z_M) (a0 : Int) (a1 : Int) (a3 : Int) (a4 : Int) : z_O := if z_ob a0 11 then z_let (z_gr a0 8) (fun x14 => if z_ob x14 1 then z_let (s x14 6) (fun x15 => if (a4 : Int) < x15 then (if z_ob a0 11 then z_let (z_gr a0 11) (fun x16 => if z_ob x16 8 then z_bI (fX8_pageEnd fu s x16 a4 a1) (fun x18 s17 => if (a3 : Int) ≠ 0 then (if (a3 : Int) ≠ 1 then (if z_ob a0 11 then z_let (z_gr a0 11) (fun x19 => if z_ob x19 8 then z_bI (fX8_thickOf fu s17 x19 a4 x18) (fun x21 s20 => fX11_page_J144 fu s20 x21) else none) else none) else (z_let (z_w (x18 - a4)) (fun x22 => z_let (z_w (x22 + 1)) (fun x23 => fX11_page_J144 fu s17 x23)))) else (fX11_page_J144 fu s17 a4)) else none) else none) else (some (vI (-1), s))) else none) else none
theorem gX11_page_J83 {l : Launch} {K : z_K} (hst : l.stackTraces = false) (fu : Nat) (s : z_M) (a0 : Int) (a1 : Int) (a3 : Int) (a4 : Int) : G l K mX11_page 7 172 0 0 83 [vR a0, vI a1, vU, vI a3, vI a4, vU] [] s (fX11_page_J83 fu s a0 a1 a3 a4) := by
  unfold fX11_page_J83
  refine G_iload (x := a4) (pc := 83) dX11_page_83 rfl ?_
  refine G_aload_n (x := a0) (pc := 85) dX11_page_85 rfl ?_
  refine G_getR (j := 8) (pc := 86) dX11_page_86 rfl z_CLX11 (by decide) z_wX11_74 (by decide) (fun x14 => ?_)
  refine G_getI (j := 6) (pc := 89) dX11_page_89 rfl z_CLX1 (by decide) z_wX11_176 (by decide) (fun x15 => ?_)
  refine G_icmp_lt (tgt := 97) (pc := 92) dX11_page_92 ?_ ?_
  · refine G_aload_n (x := a0) (pc := 97) dX11_page_97 rfl ?_
    refine G_getR (j := 11) (pc := 98) dX11_page_98 rfl z_CLX11 (by decide) z_wX11_95 (by decide) (fun x16 => ?_)
    refine G_iload (x := a4) (pc := 101) dX11_page_101 rfl ?_
    refine G_iload_n (x := a1) (pc := 103) dX11_page_103 rfl ?_
    refine G_callVI (as := [vI a4, vI a1]) (st := []) (c := 8) (bc2 := 0) (bs2 := 0) (pc := 104) dX11_page_104 z_mX8_pageEnd z_vX8_pageEnd z_wX11_350 (gX8_pageEnd hst fu s x16 a4 a1) rfl rfl (by decide) rfl rfl ⟨by decide, by decide, by decide, by decide, Nat.le_of_ble_eq_true rfl⟩ rfl (fun x18 s17 => ?_)
    refine G_istore (lv' := [vR a0, vI a1, vU, vI a3, vI a4, vI x18]) (pc := 107) dX11_page_107 rfl ?_
    refine G_iload_n (x := a3) (pc := 109) dX11_page_109 rfl ?_
    refine G_if_ne (tgt := 118) (pc := 110) dX11_page_110 ?_ ?_
    · refine G_iload_n (x := a3) (pc := 118) dX11_page_118 rfl ?_
      refine G_iconst (pc := 119) dX11_page_119 ?_
      refine G_icmp_ne (tgt := 133) (pc := 120) dX11_page_120 ?_ ?_
      · refine G_aload_n (x := a0) (pc := 133) dX11_page_133 rfl ?_
        refine G_getR (j := 11) (pc := 134) dX11_page_134 rfl z_CLX11 (by decide) z_wX11_95 (by decide) (fun x19 => ?_)
        refine G_iload (x := a4) (pc := 137) dX11_page_137 rfl ?_
        refine G_iload (x := x18) (pc := 139) dX11_page_139 rfl ?_
        refine G_callVI (as := [vI a4, vI x18]) (st := []) (c := 8) (bc2 := 0) (bs2 := 0) (pc := 141) dX11_page_141 z_mX8_thickOf z_vX8_thickOf z_wX11_344 (gX8_thickOf hst fu s17 x19 a4 x18) rfl rfl (by decide) rfl rfl ⟨by decide, by decide, by decide, by decide, Nat.le_of_ble_eq_true rfl⟩ rfl (fun x21 s20 => ?_)
        refine G_fg (lv2 := [vU, vU, vU, vU, vU, vU]) ⟨Or.inl rfl, Or.inl rfl, Or.inl rfl, Or.inl rfl, Or.inl rfl, Or.inl rfl, trivial⟩ ?_
        exact gX11_page_J144 hst fu s20 x21
      · refine G_iload (x := x18) (pc := 123) dX11_page_123 rfl ?_
        refine G_iload (x := a4) (pc := 125) dX11_page_125 rfl ?_
        refine G_isub (pc := 127) dX11_page_127 (fun x22 => ?_)
        refine G_iconst (pc := 128) dX11_page_128 ?_
        refine G_iadd (pc := 129) dX11_page_129 (fun x23 => ?_)
        refine G_goto (tgt := 144) (pc := 130) dX11_page_130 ?_
        refine G_fg (lv2 := [vU, vU, vU, vU, vU, vU]) ⟨Or.inl rfl, Or.inl rfl, Or.inl rfl, Or.inl rfl, Or.inl rfl, Or.inl rfl, trivial⟩ ?_
        exact gX11_page_J144 hst fu s17 x23
    · refine G_iload (x := a4) (pc := 113) dX11_page_113 rfl ?_
      refine G_goto (tgt := 144) (pc := 115) dX11_page_115 ?_
      refine G_fg (lv2 := [vU, vU, vU, vU, vU, vU]) ⟨Or.inl rfl, Or.inl rfl, Or.inl rfl, Or.inl rfl, Or.inl rfl, Or.inl rfl, trivial⟩ ?_
      exact gX11_page_J144 hst fu s17 a4
  · refine G_iconst (pc := 95) dX11_page_95 ?_
    exact G_iret (pc := 96) dX11_page_96
def fX11_page_J40 (fu : Nat) (s : z_M) (a0 : Int) (a1 : Int) (a2 : Int) (a3 : Int) (t0 : Int) : z_O := fX11_page_L45 fu a0 a1 a2 a3 fu s t0 0 (fun s12 x13 => fX11_page_J83 fu s12 a0 a1 a3 x13)
theorem gX11_page_J40 {l : Launch} {K : z_K} (hst : l.stackTraces = false) (fu : Nat) (s : z_M) (a0 : Int) (a1 : Int) (a2 : Int) (a3 : Int) (t0 : Int) : G l K mX11_page 7 172 0 0 40 [vR a0, vI a1, vI a2, vI a3, vU, vU] [vI t0] s (fX11_page_J40 fu s a0 a1 a2 a3 t0) := by
  unfold fX11_page_J40
  refine G_istore (lv' := [vR a0, vI a1, vI a2, vI a3, vI t0, vU]) (pc := 40) dX11_page_40 rfl ?_
  refine G_iconst (pc := 42) dX11_page_42 ?_
  refine G_istore (lv' := [vR a0, vI a1, vI a2, vI a3, vI t0, vI 0]) (pc := 43) dX11_page_43 rfl ?_
  refine gX11_page_L45 hst fu a0 a1 a2 a3 _ (fun s12 x13 => ?_) fu s t0 0
  exact gX11_page_J83 hst fu s12 a0 a1 a3 x13
def fX11_page (fu : Nat) (s : z_M) (a0 : Int) (a1 : Int) (a2 : Int) (a3 : Int) : z_O := if z_ob a0 11 then z_bN (fX11_needWithin fu s a0 a1 12 9999) (fun s1 => if z_ob a0 11 then z_bN (fX11_needWithin fu s1 a0 a3 0 2) (fun s2 => if z_ob a0 11 then z_bN (fX11_refresh fu s2 a0) (fun s3 => if z_ob a0 11 then z_bN (fX11_refreshSides fu s3 a0) (fun s4 => if (0 : Int) ≤ a2 then (fX11_page_J40 fu s4 a0 a1 a2 a3 0) else (if z_ob a0 11 then z_let (z_gr a0 8) (fun x24 => if z_ob x24 1 then z_let (s4 x24 6) (fun x25 => fX11_page_J40 fu s4 a0 a1 a2 a3 x25) else none) else none)) else none) else none) else none) else none
theorem gX11_page {l : Launch} {K : z_K} (hst : l.stackTraces = false) (fu : Nat) (s : z_M) (a0 : Int) (a1 : Int) (a2 : Int) (a3 : Int) : z_D l K mX11_page 7 172 2 12 [vR a0, vI a1, vI a2, vI a3] s (fX11_page fu s a0 a1 a2 a3) := by
  refine z_D_of (lv := [vR a0, vI a1, vI a2, vI a3, vU, vU]) hst z_mX11_page rfl ?_ (Nat.le_of_ble_eq_true rfl) rfl
  unfold fX11_page
  refine G_aload_n (x := a0) (pc := 0) dX11_page_0 rfl ?_
  refine G_iload_n (x := a1) (pc := 1) dX11_page_1 rfl ?_
  refine G_bipush (pc := 2) dX11_page_2 ?_
  refine G_sipush (pc := 4) dX11_page_4 ?_
  refine G_callVN (as := [vI a1, vI 12, vI 9999]) (st := []) (c := 11) (bc2 := 1) (bs2 := 6) (pc := 7) dX11_page_7 z_mX11_needWithin z_vX11_needWithin z_wX11_113 (gX11_needWithin hst fu s a0 a1 12 9999) rfl rfl (by decide) rfl rfl ⟨by decide, by decide, by decide, by decide, Nat.le_of_ble_eq_true rfl⟩ rfl (fun s1 => ?_)
  refine G_aload_n (x := a0) (pc := 10) dX11_page_10 rfl ?_
  refine G_iload_n (x := a3) (pc := 11) dX11_page_11 rfl ?_
  refine G_iconst (pc := 12) dX11_page_12 ?_
  refine G_iconst (pc := 13) dX11_page_13 ?_
  refine G_callVN (as := [vI a3, vI 0, vI 2]) (st := []) (c := 11) (bc2 := 0) (bs2 := 0) (pc := 14) dX11_page_14 z_mX11_needWithin z_vX11_needWithin z_wX11_113 (gX11_needWithin hst fu s1 a0 a3 0 2) rfl rfl (by decide) rfl rfl ⟨by decide, by decide, by decide, by decide, Nat.le_of_ble_eq_true rfl⟩ rfl (fun s2 => ?_)
  refine G_aload_n (x := a0) (pc := 17) dX11_page_17 rfl ?_
  refine G_callVN (as := []) (st := []) (c := 11) (bc2 := 0) (bs2 := 0) (pc := 18) dX11_page_18 z_mX11_refresh z_vX11_refresh z_wX11_124 (gX11_refresh hst fu s2 a0) rfl rfl (by decide) rfl rfl ⟨by decide, by decide, by decide, by decide, Nat.le_of_ble_eq_true rfl⟩ rfl (fun s3 => ?_)
  refine G_aload_n (x := a0) (pc := 21) dX11_page_21 rfl ?_
  refine G_callVN (as := []) (st := []) (c := 11) (bc2 := 0) (bs2 := 0) (pc := 22) dX11_page_22 z_mX11_refreshSides z_vX11_refreshSides z_wX11_335 (gX11_refreshSides hst fu s3 a0) rfl rfl (by decide) rfl rfl ⟨by decide, by decide, by decide, by decide, Nat.le_of_ble_eq_true rfl⟩ rfl (fun s4 => ?_)
  refine G_iload_n (x := a2) (pc := 25) dX11_page_25 rfl ?_
  refine G_if_ge (tgt := 39) (pc := 26) dX11_page_26 ?_ ?_
  · refine G_iconst (pc := 39) dX11_page_39 ?_
    exact gX11_page_J40 hst fu s4 a0 a1 a2 a3 0
  · refine G_aload_n (x := a0) (pc := 29) dX11_page_29 rfl ?_
    refine G_getR (j := 8) (pc := 30) dX11_page_30 rfl z_CLX11 (by decide) z_wX11_74 (by decide) (fun x24 => ?_)
    refine G_getI (j := 6) (pc := 33) dX11_page_33 rfl z_CLX1 (by decide) z_wX11_176 (by decide) (fun x25 => ?_)
    refine G_goto (tgt := 40) (pc := 36) dX11_page_36 ?_
    exact gX11_page_J40 hst fu s4 a0 a1 a2 a3 x25
def fX11_narrow_J60 (fu : Nat) (s : z_M) (a0 : Int) (a1 : Int) (a2 : Int) (a3 : Int) (r : z_M → Int → Int → z_O) (k : z_M → Int → z_O) : z_O := r s a2 a3
theorem gX11_narrow_J60 {l : Launch} {K : z_K} (hst : l.stackTraces = false) (fu : Nat) (s : z_M) (a0 : Int) (a1 : Int) (a2 : Int) (a3 : Int) (r : z_M → Int → Int → z_O) (k : z_M → Int → z_O) (hr : ∀ (s : z_M) (a2 : Int) (a3 : Int), G l K mX11_narrow 7 172 0 0 24 [vR a0, vI a1, vI a2, vI a3, vU] [] s (r s a2 a3)) (hk : ∀ (s : z_M) (a2 : Int), G l K mX11_narrow 7 172 0 0 63 [vU, vU, vI a2, vU, vU] [] s (k s a2)) : G l K mX11_narrow 7 172 0 0 60 [vR a0, vI a1, vI a2, vI a3, vU] [] s (fX11_narrow_J60 fu s a0 a1 a2 a3 r k) := by
  unfold fX11_narrow_J60
  refine G_goto (tgt := 24) (pc := 60) dX11_narrow_60 ?_
  exact hr s a2 a3
def fX11_narrow_L24 (fu : Nat) (a0 : Int) (a1 : Int) : Nat → z_M → Int → Int → (z_M → Int → z_O) → z_O
  | 0, _, _, _, _ => none
  | F + 1, s, a2, a3, k => if (a3 : Int) ≤ a2 then (k s a2) else (z_let (z_w (a2 + a3)) (fun x4 => if 2 ≠ 0 then z_let (z_w (Int.tdiv x4 2)) (fun x5 => if z_ob a0 11 then z_let (z_gr a0 11) (fun x6 => if z_ob x6 8 then z_bI (fX8_pageCount fu s x6 x5) (fun x8 s7 => if (a1 : Int) < x8 then (z_let (z_w (x5 + 1)) (fun x9 => fX11_narrow_J60 fu s7 a0 a1 x9 a3 (fun w v2 v3 => fX11_narrow_L24 fu a0 a1 F w v2 v3 k) k)) else (fX11_narrow_J60 fu s7 a0 a1 a2 x5 (fun w v2 v3 => fX11_narrow_L24 fu a0 a1 F w v2 v3 k) k)) else none) else none) else none))
theorem gX11_narrow_L24 {l : Launch} {K : z_K} (hst : l.stackTraces = false) (fu : Nat) (a0 : Int) (a1 : Int) (k : z_M → Int → z_O) (hk : ∀ (s : z_M) (a2 : Int), G l K mX11_narrow 7 172 0 0 63 [vU, vU, vI a2, vU, vU] [] s (k s a2)) : ∀ (F : Nat) (s : z_M) (a2 : Int) (a3 : Int), G l K mX11_narrow 7 172 0 0 24 [vR a0, vI a1, vI a2, vI a3, vU] [] s (fX11_narrow_L24 fu a0 a1 F s a2 a3 k) := by
  intro F
  induction F with
  | zero => exact fun s a2 a3 h => absurd rfl h
  | succ F ih =>
    intro s a2 a3
    rw [fX11_narrow_L24]
    refine G_iload_n (x := a2) (pc := 24) dX11_narrow_24 rfl ?_
    refine G_iload_n (x := a3) (pc := 25) dX11_narrow_25 rfl ?_
    refine G_icmp_ge (tgt := 63) (pc := 26) dX11_narrow_26 ?_ ?_
    · refine G_fg (lv2 := [vU, vU, vI a2, vU, vU]) ⟨Or.inl rfl, Or.inl rfl, Or.inr rfl, Or.inl rfl, Or.inl rfl, trivial⟩ ?_
      exact hk s a2
    · refine G_iload_n (x := a2) (pc := 29) dX11_narrow_29 rfl ?_
      refine G_iload_n (x := a3) (pc := 30) dX11_narrow_30 rfl ?_
      refine G_iadd (pc := 31) dX11_narrow_31 (fun x4 => ?_)
      refine G_iconst (pc := 32) dX11_narrow_32 ?_
      refine G_idiv (pc := 33) dX11_narrow_33 (fun x5 => ?_)
      refine G_istore (lv' := [vR a0, vI a1, vI a2, vI a3, vI x5]) (pc := 34) dX11_narrow_34 rfl ?_
      refine G_aload_n (x := a0) (pc := 36) dX11_narrow_36 rfl ?_
      refine G_getR (j := 11) (pc := 37) dX11_narrow_37 rfl z_CLX11 (by decide) z_wX11_95 (by decide) (fun x6 => ?_)
      refine G_iload (x := x5) (pc := 40) dX11_narrow_40 rfl ?_
      refine G_callVI (as := [vI x5]) (st := []) (c := 8) (bc2 := 0) (bs2 := 0) (pc := 42) dX11_narrow_42 z_mX8_pageCount z_vX8_pageCount z_wX11_347 (gX8_pageCount hst fu s x6 x5) rfl rfl (by decide) rfl rfl ⟨by decide, by decide, by decide, by decide, Nat.le_of_ble_eq_true rfl⟩ rfl (fun x8 s7 => ?_)
      refine G_iload_n (x := a1) (pc := 45) dX11_narrow_45 rfl ?_
      refine G_icmp_gt (tgt := 55) (pc := 46) dX11_narrow_46 ?_ ?_
      · refine G_iload (x := x5) (pc := 55) dX11_narrow_55 rfl ?_
        refine G_iconst (pc := 57) dX11_narrow_57 ?_
        refine G_iadd (pc := 58) dX11_narrow_58 (fun x9 => ?_)
        refine G_istore_n (lv' := [vR a0, vI a1, vI x9, vI a3, vI x5]) (pc := 59) dX11_narrow_59 rfl ?_
        refine G_fg (lv2 := [vR a0, vI a1, vI x9, vI a3, vU]) ⟨Or.inr rfl, Or.inr rfl, Or.inr rfl, Or.inr rfl, Or.inl rfl, trivial⟩ ?_
        exact gX11_narrow_J60 hst fu s7 a0 a1 x9 a3 _ _ (fun w v2 v3 => ih w v2 v3) hk
      · refine G_iload (x := x5) (pc := 49) dX11_narrow_49 rfl ?_
        refine G_istore_n (lv' := [vR a0, vI a1, vI a2, vI x5, vI x5]) (pc := 51) dX11_narrow_51 rfl ?_
        refine G_goto (tgt := 60) (pc := 52) dX11_narrow_52 ?_
        refine G_fg (lv2 := [vR a0, vI a1, vI a2, vI x5, vU]) ⟨Or.inr rfl, Or.inr rfl, Or.inr rfl, Or.inr rfl, Or.inl rfl, trivial⟩ ?_
        exact gX11_narrow_J60 hst fu s7 a0 a1 a2 x5 _ _ (fun w v2 v3 => ih w v2 v3) hk
def fX11_narrow_J75 (fu : Nat) (s : z_M) (t0 : Int) : z_O := some (vI t0, s)
theorem gX11_narrow_J75 {l : Launch} {K : z_K} (hst : l.stackTraces = false) (fu : Nat) (s : z_M) (t0 : Int) : G l K mX11_narrow 7 172 0 0 75 [vU, vU, vU, vU, vU] [vI t0] s (fX11_narrow_J75 fu s t0) := by
  unfold fX11_narrow_J75
  exact G_iret (pc := 75) dX11_narrow_75
def fX11_narrow (fu : Nat) (s : z_M) (a0 : Int) (a1 : Int) : z_O := if z_ob a0 11 then z_bN (fX11_needWithin fu s a0 a1 1 200) (fun s1 => if z_ob a0 11 then z_bN (fX11_refresh fu s1 a0) (fun s2 => if z_ob a0 11 then z_bN (fX11_refreshSides fu s2 a0) (fun s3 => fX11_narrow_L24 fu a0 a1 fu s3 12 10000 (fun s10 x11 => if (x11 : Int) ≤ 9999 then (fX11_narrow_J75 fu s10 x11) else (fX11_narrow_J75 fu s10 (-1)))) else none) else none) else none
theorem gX11_narrow {l : Launch} {K : z_K} (hst : l.stackTraces = false) (fu : Nat) (s : z_M) (a0 : Int) (a1 : Int) : z_D l K mX11_narrow 7 172 1 6 [vR a0, vI a1] s (fX11_narrow fu s a0 a1) := by
  refine z_D_of (lv := [vR a0, vI a1, vU, vU, vU]) hst z_mX11_narrow rfl ?_ (Nat.le_of_ble_eq_true rfl) rfl
  unfold fX11_narrow
  refine G_aload_n (x := a0) (pc := 0) dX11_narrow_0 rfl ?_
  refine G_iload_n (x := a1) (pc := 1) dX11_narrow_1 rfl ?_
  refine G_iconst (pc := 2) dX11_narrow_2 ?_
  refine G_sipush (pc := 3) dX11_narrow_3 ?_
  refine G_callVN (as := [vI a1, vI 1, vI 200]) (st := []) (c := 11) (bc2 := 0) (bs2 := 0) (pc := 6) dX11_narrow_6 z_mX11_needWithin z_vX11_needWithin z_wX11_113 (gX11_needWithin hst fu s a0 a1 1 200) rfl rfl (by decide) rfl rfl ⟨by decide, by decide, by decide, by decide, Nat.le_of_ble_eq_true rfl⟩ rfl (fun s1 => ?_)
  refine G_aload_n (x := a0) (pc := 9) dX11_narrow_9 rfl ?_
  refine G_callVN (as := []) (st := []) (c := 11) (bc2 := 0) (bs2 := 0) (pc := 10) dX11_narrow_10 z_mX11_refresh z_vX11_refresh z_wX11_124 (gX11_refresh hst fu s1 a0) rfl rfl (by decide) rfl rfl ⟨by decide, by decide, by decide, by decide, Nat.le_of_ble_eq_true rfl⟩ rfl (fun s2 => ?_)
  refine G_aload_n (x := a0) (pc := 13) dX11_narrow_13 rfl ?_
  refine G_callVN (as := []) (st := []) (c := 11) (bc2 := 0) (bs2 := 0) (pc := 14) dX11_narrow_14 z_mX11_refreshSides z_vX11_refreshSides z_wX11_335 (gX11_refreshSides hst fu s2 a0) rfl rfl (by decide) rfl rfl ⟨by decide, by decide, by decide, by decide, Nat.le_of_ble_eq_true rfl⟩ rfl (fun s3 => ?_)
  refine G_bipush (pc := 17) dX11_narrow_17 ?_
  refine G_istore_n (lv' := [vR a0, vI a1, vI 12, vU, vU]) (pc := 19) dX11_narrow_19 rfl ?_
  refine G_sipush (pc := 20) dX11_narrow_20 ?_
  refine G_istore_n (lv' := [vR a0, vI a1, vI 12, vI 10000, vU]) (pc := 23) dX11_narrow_23 rfl ?_
  refine gX11_narrow_L24 hst fu a0 a1 _ (fun s10 x11 => ?_) fu s3 12 10000
  refine G_iload_n (x := x11) (pc := 63) dX11_narrow_63 rfl ?_
  refine G_sipush (pc := 64) dX11_narrow_64 ?_
  refine G_icmp_le (tgt := 74) (pc := 67) dX11_narrow_67 ?_ ?_
  · refine G_iload_n (x := x11) (pc := 74) dX11_narrow_74 rfl ?_
    refine G_fg (lv2 := [vU, vU, vU, vU, vU]) ⟨Or.inl rfl, Or.inl rfl, Or.inl rfl, Or.inl rfl, Or.inl rfl, trivial⟩ ?_
    exact gX11_narrow_J75 hst fu s10 x11
  · refine G_iconst (pc := 70) dX11_narrow_70 ?_
    refine G_goto (tgt := 75) (pc := 71) dX11_narrow_71 ?_
    refine G_fg (lv2 := [vU, vU, vU, vU, vU]) ⟨Or.inl rfl, Or.inl rfl, Or.inl rfl, Or.inl rfl, Or.inl rfl, trivial⟩ ?_
    exact gX11_narrow_J75 hst fu s10 (-1)
def fX12_thrown (fu : Nat) (s : z_M) (a0 : Int) : z_O := if z_ob a0 12 then z_let (s a0 0) (fun x1 => some (vI x1, s)) else none
theorem gX12_thrown {l : Launch} {K : z_K} (hst : l.stackTraces = false) (fu : Nat) (s : z_M) (a0 : Int) : z_D l K mX12_thrown 0 0 0 0 [vR a0] s (fX12_thrown fu s a0) := by
  refine z_D_of (lv := [vR a0]) hst z_mX12_thrown rfl ?_ (Nat.le_of_ble_eq_true rfl) rfl
  unfold fX12_thrown
  refine G_aload_n (x := a0) (pc := 0) dX12_thrown_0 rfl ?_
  refine G_getI (j := 0) (pc := 1) dX12_thrown_1 rfl z_CLX12 (by decide) z_wX12_170 (by decide) (fun x1 => ?_)
  exact G_iret (pc := 4) dX12_thrown_4
def fX12_feed_J76 (fu : Nat) (s : z_M) (a0 : Int) (a1 : Int) (a2 : Int) (a3 : Int) (a4 : Int) (a5 : Int) (a6 : Int) (t0 : Int) (r : z_M → Int → z_O) (k : z_M → z_O) : z_O := if z_ob a0 12 then z_let (z_gr a0 8) (fun x4 => if z_ob a0 12 then z_let (s a0 2) (fun x5 => if 4 ≠ 0 then z_let (Int.tmod a6 4) (fun x6 => z_let (z_w (8 * x6)) (fun x7 => z_let (z_w (24 - x7)) (fun x8 => z_let (z_shr t0 x8) (fun x9 => z_let (z_and x9 255) (fun x10 => if z_ix x4 100 x5 then z_let (z_up s x4 x5 x10) (fun s11 => if z_ob a0 12 then z_let (s11 a0 2) (fun x12 => z_let (z_w (x12 + 1)) (fun x13 => if z_ob a0 12 then z_let (z_up s11 a0 2 x13) (fun s14 => z_let (z_w (a6 + 1)) (fun x15 => r s14 x15)) else none)) else none) else none))))) else none) else none) else none
theorem gX12_feed_J76 {l : Launch} {K : z_K} (hst : l.stackTraces = false) (fu : Nat) (s : z_M) (a0 : Int) (a1 : Int) (a2 : Int) (a3 : Int) (a4 : Int) (a5 : Int) (a6 : Int) (t0 : Int) (r : z_M → Int → z_O) (k : z_M → z_O) (hr : ∀ (s : z_M) (a6 : Int), G l K mX12_feed 0 0 0 0 23 [vR a0, vI a1, vI a2, vI a3, vI a4, vI a5, vI a6, vU] [] s (r s a6)) (hk : ∀ (s : z_M), G l K mX12_feed 0 0 0 0 120 [vR a0, vU, vU, vU, vU, vU, vU, vU] [] s (k s)) : G l K mX12_feed 0 0 0 0 76 [vR a0, vI a1, vI a2, vI a3, vI a4, vI a5, vI a6, vU] [vI t0] s (fX12_feed_J76 fu s a0 a1 a2 a3 a4 a5 a6 t0 r k) := by
  unfold fX12_feed_J76
  refine G_istore (lv' := [vR a0, vI a1, vI a2, vI a3, vI a4, vI a5, vI a6, vI t0]) (pc := 76) dX12_feed_76 rfl ?_
  refine G_aload_n (x := a0) (pc := 78) dX12_feed_78 rfl ?_
  refine G_getR (j := 8) (pc := 79) dX12_feed_79 rfl z_CLX12 (by decide) z_wX12_17 (by decide) (fun x4 => ?_)
  refine G_aload_n (x := a0) (pc := 82) dX12_feed_82 rfl ?_
  refine G_getI (j := 2) (pc := 83) dX12_feed_83 rfl z_CLX12 (by decide) z_wX12_173 (by decide) (fun x5 => ?_)
  refine G_iload (x := t0) (pc := 86) dX12_feed_86 rfl ?_
  refine G_bipush (pc := 88) dX12_feed_88 ?_
  refine G_bipush (pc := 90) dX12_feed_90 ?_
  refine G_iload (x := a6) (pc := 92) dX12_feed_92 rfl ?_
  refine G_iconst (pc := 94) dX12_feed_94 ?_
  refine G_irem (pc := 95) dX12_feed_95 (fun x6 => ?_)
  refine G_imul (pc := 96) dX12_feed_96 (fun x7 => ?_)
  refine G_isub (pc := 97) dX12_feed_97 (fun x8 => ?_)
  refine G_ishr (pc := 98) dX12_feed_98 (fun x9 => ?_)
  refine G_sipush (pc := 99) dX12_feed_99 ?_
  refine G_iand (pc := 102) dX12_feed_102 (fun x10 => ?_)
  refine G_iast (pc := 103) dX12_feed_103 (fun s11 => ?_)
  refine G_aload_n (x := a0) (pc := 104) dX12_feed_104 rfl ?_
  refine G_dupR (pc := 105) dX12_feed_105 ?_
  refine G_getI (j := 2) (pc := 106) dX12_feed_106 rfl z_CLX12 (by decide) z_wX12_173 (by decide) (fun x12 => ?_)
  refine G_iconst (pc := 109) dX12_feed_109 ?_
  refine G_iadd (pc := 110) dX12_feed_110 (fun x13 => ?_)
  refine G_putI (j := 2) (pc := 111) dX12_feed_111 rfl z_CLX12 (by decide) z_wX12_173 rfl (by decide) (by decide) (fun s14 => ?_)
  refine G_iinc (x := a6) (g := fun x15 => [vR a0, vI a1, vI a2, vI a3, vI a4, vI a5, vI x15, vI t0]) (pc := 114) dX12_feed_114 rfl (fun _ => rfl) (fun x15 => ?_)
  refine G_goto (tgt := 23) (pc := 117) dX12_feed_117 ?_
  refine G_fg (lv2 := [vR a0, vI a1, vI a2, vI a3, vI a4, vI a5, vI x15, vU]) ⟨Or.inr rfl, Or.inr rfl, Or.inr rfl, Or.inr rfl, Or.inr rfl, Or.inr rfl, Or.inr rfl, Or.inl rfl, trivial⟩ ?_
  exact hr s14 x15
def fX12_feed_L23 (fu : Nat) (a0 : Int) (a1 : Int) (a2 : Int) (a3 : Int) (a4 : Int) (a5 : Int) : Nat → z_M → Int → (z_M → z_O) → z_O
  | 0, _, _, _ => none
  | F + 1, s, a6, k => if (20 : Int) ≤ a6 then (k s) else (if (4 : Int) ≤ a6 then (if (8 : Int) ≤ a6 then (if (12 : Int) ≤ a6 then (if (16 : Int) ≤ a6 then (fX12_feed_J76 fu s a0 a1 a2 a3 a4 a5 a6 a5 (fun w v6 => fX12_feed_L23 fu a0 a1 a2 a3 a4 a5 F w v6 k) k) else (fX12_feed_J76 fu s a0 a1 a2 a3 a4 a5 a6 a4 (fun w v6 => fX12_feed_L23 fu a0 a1 a2 a3 a4 a5 F w v6 k) k)) else (fX12_feed_J76 fu s a0 a1 a2 a3 a4 a5 a6 a3 (fun w v6 => fX12_feed_L23 fu a0 a1 a2 a3 a4 a5 F w v6 k) k)) else (fX12_feed_J76 fu s a0 a1 a2 a3 a4 a5 a6 a2 (fun w v6 => fX12_feed_L23 fu a0 a1 a2 a3 a4 a5 F w v6 k) k)) else (fX12_feed_J76 fu s a0 a1 a2 a3 a4 a5 a6 a1 (fun w v6 => fX12_feed_L23 fu a0 a1 a2 a3 a4 a5 F w v6 k) k))
theorem gX12_feed_L23 {l : Launch} {K : z_K} (hst : l.stackTraces = false) (fu : Nat) (a0 : Int) (a1 : Int) (a2 : Int) (a3 : Int) (a4 : Int) (a5 : Int) (k : z_M → z_O) (hk : ∀ (s : z_M), G l K mX12_feed 0 0 0 0 120 [vR a0, vU, vU, vU, vU, vU, vU, vU] [] s (k s)) : ∀ (F : Nat) (s : z_M) (a6 : Int), G l K mX12_feed 0 0 0 0 23 [vR a0, vI a1, vI a2, vI a3, vI a4, vI a5, vI a6, vU] [] s (fX12_feed_L23 fu a0 a1 a2 a3 a4 a5 F s a6 k) := by
  intro F
  induction F with
  | zero => exact fun s a6 h => absurd rfl h
  | succ F ih =>
    intro s a6
    rw [fX12_feed_L23]
    refine G_iload (x := a6) (pc := 23) dX12_feed_23 rfl ?_
    refine G_bipush (pc := 25) dX12_feed_25 ?_
    refine G_icmp_ge (tgt := 120) (pc := 27) dX12_feed_27 ?_ ?_
    · refine G_fg (lv2 := [vR a0, vU, vU, vU, vU, vU, vU, vU]) ⟨Or.inr rfl, Or.inl rfl, Or.inl rfl, Or.inl rfl, Or.inl rfl, Or.inl rfl, Or.inl rfl, Or.inl rfl, trivial⟩ ?_
      exact hk s
    · refine G_iload (x := a6) (pc := 30) dX12_feed_30 rfl ?_
      refine G_iconst (pc := 32) dX12_feed_32 ?_
      refine G_icmp_ge (tgt := 40) (pc := 33) dX12_feed_33 ?_ ?_
      · refine G_iload (x := a6) (pc := 40) dX12_feed_40 rfl ?_
        refine G_bipush (pc := 42) dX12_feed_42 ?_
        refine G_icmp_ge (tgt := 51) (pc := 44) dX12_feed_44 ?_ ?_
        · refine G_iload (x := a6) (pc := 51) dX12_feed_51 rfl ?_
          refine G_bipush (pc := 53) dX12_feed_53 ?_
          refine G_icmp_ge (tgt := 62) (pc := 55) dX12_feed_55 ?_ ?_
          · refine G_iload (x := a6) (pc := 62) dX12_feed_62 rfl ?_
            refine G_bipush (pc := 64) dX12_feed_64 ?_
            refine G_icmp_ge (tgt := 74) (pc := 66) dX12_feed_66 ?_ ?_
            · refine G_iload (x := a5) (pc := 74) dX12_feed_74 rfl ?_
              exact gX12_feed_J76 hst fu s a0 a1 a2 a3 a4 a5 a6 a5 _ _ (fun w v6 => ih w v6) hk
            · refine G_iload (x := a4) (pc := 69) dX12_feed_69 rfl ?_
              refine G_goto (tgt := 76) (pc := 71) dX12_feed_71 ?_
              exact gX12_feed_J76 hst fu s a0 a1 a2 a3 a4 a5 a6 a4 _ _ (fun w v6 => ih w v6) hk
          · refine G_iload_n (x := a3) (pc := 58) dX12_feed_58 rfl ?_
            refine G_goto (tgt := 76) (pc := 59) dX12_feed_59 ?_
            exact gX12_feed_J76 hst fu s a0 a1 a2 a3 a4 a5 a6 a3 _ _ (fun w v6 => ih w v6) hk
        · refine G_iload_n (x := a2) (pc := 47) dX12_feed_47 rfl ?_
          refine G_goto (tgt := 76) (pc := 48) dX12_feed_48 ?_
          exact gX12_feed_J76 hst fu s a0 a1 a2 a3 a4 a5 a6 a2 _ _ (fun w v6 => ih w v6) hk
      · refine G_iload_n (x := a1) (pc := 36) dX12_feed_36 rfl ?_
        refine G_goto (tgt := 76) (pc := 37) dX12_feed_37 ?_
        exact gX12_feed_J76 hst fu s a0 a1 a2 a3 a4 a5 a6 a1 _ _ (fun w v6 => ih w v6) hk
def fX12_feed (fu : Nat) (s : z_M) (a0 : Int) (a1 : Int) (a2 : Int) (a3 : Int) (a4 : Int) (a5 : Int) : z_O := if z_ob a0 12 then z_let (z_up s a0 0 0) (fun s1 => if z_ob a0 12 then z_let (s1 a0 2) (fun x2 => z_let (z_w (x2 + 20)) (fun x3 => if (x3 : Int) ≤ 300 then (fX12_feed_L23 fu a0 a1 a2 a3 a4 a5 fu s1 0 (fun s16 => if z_ob a0 12 then z_let (s16 a0 2) (fun x17 => some (vI x17, s16)) else none)) else (some (vI (-1), s1)))) else none) else none
theorem gX12_feed {l : Launch} {K : z_K} (hst : l.stackTraces = false) (fu : Nat) (s : z_M) (a0 : Int) (a1 : Int) (a2 : Int) (a3 : Int) (a4 : Int) (a5 : Int) : z_D l K mX12_feed 0 0 0 0 [vR a0, vI a1, vI a2, vI a3, vI a4, vI a5] s (fX12_feed fu s a0 a1 a2 a3 a4 a5) := by
  refine z_D_of (lv := [vR a0, vI a1, vI a2, vI a3, vI a4, vI a5, vU, vU]) hst z_mX12_feed rfl ?_ (Nat.le_of_ble_eq_true rfl) rfl
  unfold fX12_feed
  refine G_aload_n (x := a0) (pc := 0) dX12_feed_0 rfl ?_
  refine G_iconst (pc := 1) dX12_feed_1 ?_
  refine G_putI (j := 0) (pc := 2) dX12_feed_2 rfl z_CLX12 (by decide) z_wX12_170 rfl (by decide) (by decide) (fun s1 => ?_)
  refine G_aload_n (x := a0) (pc := 5) dX12_feed_5 rfl ?_
  refine G_getI (j := 2) (pc := 6) dX12_feed_6 rfl z_CLX12 (by decide) z_wX12_173 (by decide) (fun x2 => ?_)
  refine G_bipush (pc := 9) dX12_feed_9 ?_
  refine G_iadd (pc := 11) dX12_feed_11 (fun x3 => ?_)
  refine G_sipush (pc := 12) dX12_feed_12 ?_
  refine G_icmp_le (tgt := 20) (pc := 15) dX12_feed_15 ?_ ?_
  · refine G_iconst (pc := 20) dX12_feed_20 ?_
    refine G_istore (lv' := [vR a0, vI a1, vI a2, vI a3, vI a4, vI a5, vI 0, vU]) (pc := 21) dX12_feed_21 rfl ?_
    refine gX12_feed_L23 hst fu a0 a1 a2 a3 a4 a5 _ (fun s16 => ?_) fu s1 0
    refine G_aload_n (x := a0) (pc := 120) dX12_feed_120 rfl ?_
    refine G_getI (j := 2) (pc := 121) dX12_feed_121 rfl z_CLX12 (by decide) z_wX12_173 (by decide) (fun x17 => ?_)
    exact G_iret (pc := 124) dX12_feed_124
  · refine G_iconst (pc := 18) dX12_feed_18 ?_
    exact G_iret (pc := 19) dX12_feed_19
def fX12_in_J15 (fu : Nat) (s : z_M) (t0 : Int) : z_O := if z_bl t0 then some (vI t0, s) else none
theorem gX12_in_J15 {l : Launch} {K : z_K} (hst : l.stackTraces = false) (fu : Nat) (s : z_M) (t0 : Int) : G l K mX12_in 0 0 0 0 15 [vU, vU, vU] [vI t0] s (fX12_in_J15 fu s t0) := by
  unfold fX12_in_J15
  exact G_zret (pc := 15) dX12_in_15
def fX12_in_J14 (fu : Nat) (s : z_M) : z_O := fX12_in_J15 fu s 0
theorem gX12_in_J14 {l : Launch} {K : z_K} (hst : l.stackTraces = false) (fu : Nat) (s : z_M) : G l K mX12_in 0 0 0 0 14 [vU, vU, vU] [] s (fX12_in_J14 fu s) := by
  unfold fX12_in_J14
  refine G_iconst (pc := 14) dX12_in_14 ?_
  exact gX12_in_J15 hst fu s 0
def fX12_in (fu : Nat) (s : z_M) (a0 : Int) (a1 : Int) (a2 : Int) : z_O := if (a0 : Int) < a1 then (fX12_in_J14 fu s) else (if (a2 : Int) < a0 then (fX12_in_J14 fu s) else (fX12_in_J15 fu s 1))
theorem gX12_in {l : Launch} {K : z_K} (hst : l.stackTraces = false) (fu : Nat) (s : z_M) (a0 : Int) (a1 : Int) (a2 : Int) : z_D l K mX12_in 0 0 0 0 [vI a0, vI a1, vI a2] s (fX12_in fu s a0 a1 a2) := by
  refine z_D_of (lv := [vI a0, vI a1, vI a2]) hst z_mX12_in rfl ?_ (Nat.le_of_ble_eq_true rfl) rfl
  unfold fX12_in
  refine G_iload_n (x := a0) (pc := 0) dX12_in_0 rfl ?_
  refine G_iload_n (x := a1) (pc := 1) dX12_in_1 rfl ?_
  refine G_icmp_lt (tgt := 14) (pc := 2) dX12_in_2 ?_ ?_
  · refine G_fg (lv2 := [vU, vU, vU]) ⟨Or.inl rfl, Or.inl rfl, Or.inl rfl, trivial⟩ ?_
    exact gX12_in_J14 hst fu s
  · refine G_iload_n (x := a0) (pc := 5) dX12_in_5 rfl ?_
    refine G_iload_n (x := a2) (pc := 6) dX12_in_6 rfl ?_
    refine G_icmp_gt (tgt := 14) (pc := 7) dX12_in_7 ?_ ?_
    · refine G_fg (lv2 := [vU, vU, vU]) ⟨Or.inl rfl, Or.inl rfl, Or.inl rfl, trivial⟩ ?_
      exact gX12_in_J14 hst fu s
    · refine G_iconst (pc := 10) dX12_in_10 ?_
      refine G_goto (tgt := 15) (pc := 11) dX12_in_11 ?_
      refine G_fg (lv2 := [vU, vU, vU]) ⟨Or.inl rfl, Or.inl rfl, Or.inl rfl, trivial⟩ ?_
      exact gX12_in_J15 hst fu s 1
def fX12_bad_J38 (fu : Nat) (s : z_M) (t0 : Int) : z_O := if z_bl t0 then some (vI t0, s) else none
theorem gX12_bad_J38 {l : Launch} {K : z_K} (hst : l.stackTraces = false) (fu : Nat) (s : z_M) (t0 : Int) : G l K mX12_bad 0 0 0 0 38 [vU, vU, vU, vU] [vI t0] s (fX12_bad_J38 fu s t0) := by
  unfold fX12_bad_J38
  exact G_zret (pc := 38) dX12_bad_38
def fX12_bad_J26 (fu : Nat) (s : z_M) (a0 : Int) : z_O := if z_ob a0 12 then z_let (s a0 0) (fun x1 => if (x1 : Int) = 0 then (fX12_bad_J38 fu s 0) else (fX12_bad_J38 fu s 1)) else none
theorem gX12_bad_J26 {l : Launch} {K : z_K} (hst : l.stackTraces = false) (fu : Nat) (s : z_M) (a0 : Int) : G l K mX12_bad 0 0 0 0 26 [vR a0, vU, vU, vU] [] s (fX12_bad_J26 fu s a0) := by
  unfold fX12_bad_J26
  refine G_aload_n (x := a0) (pc := 26) dX12_bad_26 rfl ?_
  refine G_getI (j := 0) (pc := 27) dX12_bad_27 rfl z_CLX12 (by decide) z_wX12_170 (by decide) (fun x1 => ?_)
  refine G_if_eq (tgt := 37) (pc := 30) dX12_bad_30 ?_ ?_
  · refine G_iconst (pc := 37) dX12_bad_37 ?_
    refine G_fg (lv2 := [vU, vU, vU, vU]) ⟨Or.inl rfl, Or.inl rfl, Or.inl rfl, Or.inl rfl, trivial⟩ ?_
    exact gX12_bad_J38 hst fu s 0
  · refine G_iconst (pc := 33) dX12_bad_33 ?_
    refine G_goto (tgt := 38) (pc := 34) dX12_bad_34 ?_
    refine G_fg (lv2 := [vU, vU, vU, vU]) ⟨Or.inl rfl, Or.inl rfl, Or.inl rfl, Or.inl rfl, trivial⟩ ?_
    exact gX12_bad_J38 hst fu s 1
def fX12_bad (fu : Nat) (s : z_M) (a0 : Int) (a1 : Int) (a2 : Int) (a3 : Int) : z_O := if (a1 : Int) = 0 then (fX12_bad_J26 fu s a0) else (if z_ob a0 12 then z_let (s a0 0) (fun x2 => if (x2 : Int) ≠ 0 then (fX12_bad_J26 fu s a0) else (if z_ob a0 12 then z_let (z_up s a0 0 a2) (fun s3 => if z_ob a0 12 then z_let (z_gr a0 1) (fun x4 => if z_ix x4 100 a3 then z_let (s3 x4 a3) (fun x5 => z_let (z_w (x5 + 1)) (fun x6 => if z_ix x4 100 a3 then z_let (z_up s3 x4 a3 x6) (fun s7 => fX12_bad_J26 fu s7 a0) else none)) else none) else none) else none)) else none)
theorem gX12_bad {l : Launch} {K : z_K} (hst : l.stackTraces = false) (fu : Nat) (s : z_M) (a0 : Int) (a1 : Int) (a2 : Int) (a3 : Int) : z_D l K mX12_bad 0 0 0 0 [vR a0, vI a1, vI a2, vI a3] s (fX12_bad fu s a0 a1 a2 a3) := by
  refine z_D_of (lv := [vR a0, vI a1, vI a2, vI a3]) hst z_mX12_bad rfl ?_ (Nat.le_of_ble_eq_true rfl) rfl
  unfold fX12_bad
  refine G_iload_n (x := a1) (pc := 0) dX12_bad_0 rfl ?_
  refine G_if_eq (tgt := 26) (pc := 1) dX12_bad_1 ?_ ?_
  · refine G_fg (lv2 := [vR a0, vU, vU, vU]) ⟨Or.inr rfl, Or.inl rfl, Or.inl rfl, Or.inl rfl, trivial⟩ ?_
    exact gX12_bad_J26 hst fu s a0
  · refine G_aload_n (x := a0) (pc := 4) dX12_bad_4 rfl ?_
    refine G_getI (j := 0) (pc := 5) dX12_bad_5 rfl z_CLX12 (by decide) z_wX12_170 (by decide) (fun x2 => ?_)
    refine G_if_ne (tgt := 26) (pc := 8) dX12_bad_8 ?_ ?_
    · refine G_fg (lv2 := [vR a0, vU, vU, vU]) ⟨Or.inr rfl, Or.inl rfl, Or.inl rfl, Or.inl rfl, trivial⟩ ?_
      exact gX12_bad_J26 hst fu s a0
    · refine G_aload_n (x := a0) (pc := 11) dX12_bad_11 rfl ?_
      refine G_iload_n (x := a2) (pc := 12) dX12_bad_12 rfl ?_
      refine G_putI (j := 0) (pc := 13) dX12_bad_13 rfl z_CLX12 (by decide) z_wX12_170 rfl (by decide) (by decide) (fun s3 => ?_)
      refine G_aload_n (x := a0) (pc := 16) dX12_bad_16 rfl ?_
      refine G_getR (j := 1) (pc := 17) dX12_bad_17 rfl z_CLX12 (by decide) z_wX12_7 (by decide) (fun x4 => ?_)
      refine G_iload_n (x := a3) (pc := 20) dX12_bad_20 rfl ?_
      refine G_dup2 (pc := 21) dX12_bad_21 ?_
      refine G_iald (pc := 22) dX12_bad_22 (fun x5 => ?_)
      refine G_iconst (pc := 23) dX12_bad_23 ?_
      refine G_iadd (pc := 24) dX12_bad_24 (fun x6 => ?_)
      refine G_iast (pc := 25) dX12_bad_25 (fun s7 => ?_)
      refine G_fg (lv2 := [vR a0, vU, vU, vU]) ⟨Or.inr rfl, Or.inl rfl, Or.inl rfl, Or.inl rfl, trivial⟩ ?_
      exact gX12_bad_J26 hst fu s7 a0
def fX12_fine_J12 (fu : Nat) (s : z_M) (t0 : Int) : z_O := if z_bl t0 then some (vI t0, s) else none
theorem gX12_fine_J12 {l : Launch} {K : z_K} (hst : l.stackTraces = false) (fu : Nat) (s : z_M) (t0 : Int) : G l K mX12_fine 0 0 0 0 12 [vU] [vI t0] s (fX12_fine_J12 fu s t0) := by
  unfold fX12_fine_J12
  exact G_zret (pc := 12) dX12_fine_12
def fX12_fine (fu : Nat) (s : z_M) (a0 : Int) : z_O := if z_ob a0 12 then z_let (s a0 6) (fun x1 => if (x1 : Int) ≠ 0 then (fX12_fine_J12 fu s 0) else (fX12_fine_J12 fu s 1)) else none
theorem gX12_fine {l : Launch} {K : z_K} (hst : l.stackTraces = false) (fu : Nat) (s : z_M) (a0 : Int) : z_D l K mX12_fine 0 0 0 0 [vR a0] s (fX12_fine fu s a0) := by
  refine z_D_of (lv := [vR a0]) hst z_mX12_fine rfl ?_ (Nat.le_of_ble_eq_true rfl) rfl
  unfold fX12_fine
  refine G_aload_n (x := a0) (pc := 0) dX12_fine_0 rfl ?_
  refine G_getI (j := 6) (pc := 1) dX12_fine_1 rfl z_CLX12 (by decide) z_wX12_182 (by decide) (fun x1 => ?_)
  refine G_if_ne (tgt := 11) (pc := 4) dX12_fine_4 ?_ ?_
  · refine G_iconst (pc := 11) dX12_fine_11 ?_
    refine G_fg (lv2 := [vU]) ⟨Or.inl rfl, trivial⟩ ?_
    exact gX12_fine_J12 hst fu s 0
  · refine G_iconst (pc := 7) dX12_fine_7 ?_
    refine G_goto (tgt := 12) (pc := 8) dX12_fine_8 ?_
    refine G_fg (lv2 := [vU]) ⟨Or.inl rfl, trivial⟩ ?_
    exact gX12_fine_J12 hst fu s 1
def fX12_here_J24 (fu : Nat) (s : z_M) (t0 : Int) : z_O := some (vI t0, s)
theorem gX12_here_J24 {l : Launch} {K : z_K} (hst : l.stackTraces = false) (fu : Nat) (s : z_M) (t0 : Int) : G l K mX12_here 0 0 0 0 24 [vU] [vI t0] s (fX12_here_J24 fu s t0) := by
  unfold fX12_here_J24
  exact G_iret (pc := 24) dX12_here_24
def fX12_here (fu : Nat) (s : z_M) (a0 : Int) : z_O := if z_ob a0 12 then z_let (s a0 4) (fun x1 => if z_ob a0 12 then z_let (s a0 3) (fun x2 => if (x1 : Int) < x2 then (if z_ob a0 12 then z_let (z_gr a0 8) (fun x3 => if z_ob a0 12 then z_let (s a0 4) (fun x4 => if z_ix x3 100 x4 then z_let (s x3 x4) (fun x5 => fX12_here_J24 fu s x5) else none) else none) else none) else (fX12_here_J24 fu s (-1))) else none) else none
theorem gX12_here {l : Launch} {K : z_K} (hst : l.stackTraces = false) (fu : Nat) (s : z_M) (a0 : Int) : z_D l K mX12_here 0 0 0 0 [vR a0] s (fX12_here fu s a0) := by
  refine z_D_of (lv := [vR a0]) hst z_mX12_here rfl ?_ (Nat.le_of_ble_eq_true rfl) rfl
  unfold fX12_here
  refine G_aload_n (x := a0) (pc := 0) dX12_here_0 rfl ?_
  refine G_getI (j := 4) (pc := 1) dX12_here_1 rfl z_CLX12 (by decide) z_wX12_176 (by decide) (fun x1 => ?_)
  refine G_aload_n (x := a0) (pc := 4) dX12_here_4 rfl ?_
  refine G_getI (j := 3) (pc := 5) dX12_here_5 rfl z_CLX12 (by decide) z_wX12_179 (by decide) (fun x2 => ?_)
  refine G_icmp_lt (tgt := 15) (pc := 8) dX12_here_8 ?_ ?_
  · refine G_aload_n (x := a0) (pc := 15) dX12_here_15 rfl ?_
    refine G_getR (j := 8) (pc := 16) dX12_here_16 rfl z_CLX12 (by decide) z_wX12_17 (by decide) (fun x3 => ?_)
    refine G_aload_n (x := a0) (pc := 19) dX12_here_19 rfl ?_
    refine G_getI (j := 4) (pc := 20) dX12_here_20 rfl z_CLX12 (by decide) z_wX12_176 (by decide) (fun x4 => ?_)
    refine G_iald (pc := 23) dX12_here_23 (fun x5 => ?_)
    refine G_fg (lv2 := [vU]) ⟨Or.inl rfl, trivial⟩ ?_
    exact gX12_here_J24 hst fu s x5
  · refine G_iconst (pc := 11) dX12_here_11 ?_
    refine G_goto (tgt := 24) (pc := 12) dX12_here_12 ?_
    refine G_fg (lv2 := [vU]) ⟨Or.inl rfl, trivial⟩ ?_
    exact gX12_here_J24 hst fu s (-1)
def fX12_isBig_J17 (fu : Nat) (s : z_M) (t0 : Int) : z_O := if z_bl t0 then some (vI t0, s) else none
theorem gX12_isBig_J17 {l : Launch} {K : z_K} (hst : l.stackTraces = false) (fu : Nat) (s : z_M) (t0 : Int) : G l K mX12_isBig 0 0 0 0 17 [vU] [vI t0] s (fX12_isBig_J17 fu s t0) := by
  unfold fX12_isBig_J17
  exact G_zret (pc := 17) dX12_isBig_17
def fX12_isBig_J16 (fu : Nat) (s : z_M) : z_O := fX12_isBig_J17 fu s 0
theorem gX12_isBig_J16 {l : Launch} {K : z_K} (hst : l.stackTraces = false) (fu : Nat) (s : z_M) : G l K mX12_isBig 0 0 0 0 16 [vU] [] s (fX12_isBig_J16 fu s) := by
  unfold fX12_isBig_J16
  refine G_iconst (pc := 16) dX12_isBig_16 ?_
  exact gX12_isBig_J17 hst fu s 0
def fX12_isBig (fu : Nat) (s : z_M) (a0 : Int) : z_O := if (a0 : Int) < 65 then (fX12_isBig_J16 fu s) else (if (90 : Int) < a0 then (fX12_isBig_J16 fu s) else (fX12_isBig_J17 fu s 1))
theorem gX12_isBig {l : Launch} {K : z_K} (hst : l.stackTraces = false) (fu : Nat) (s : z_M) (a0 : Int) : z_D l K mX12_isBig 0 0 0 0 [vI a0] s (fX12_isBig fu s a0) := by
  refine z_D_of (lv := [vI a0]) hst z_mX12_isBig rfl ?_ (Nat.le_of_ble_eq_true rfl) rfl
  unfold fX12_isBig
  refine G_iload_n (x := a0) (pc := 0) dX12_isBig_0 rfl ?_
  refine G_bipush (pc := 1) dX12_isBig_1 ?_
  refine G_icmp_lt (tgt := 16) (pc := 3) dX12_isBig_3 ?_ ?_
  · refine G_fg (lv2 := [vU]) ⟨Or.inl rfl, trivial⟩ ?_
    exact gX12_isBig_J16 hst fu s
  · refine G_iload_n (x := a0) (pc := 6) dX12_isBig_6 rfl ?_
    refine G_bipush (pc := 7) dX12_isBig_7 ?_
    refine G_icmp_gt (tgt := 16) (pc := 9) dX12_isBig_9 ?_ ?_
    · refine G_fg (lv2 := [vU]) ⟨Or.inl rfl, trivial⟩ ?_
      exact gX12_isBig_J16 hst fu s
    · refine G_iconst (pc := 12) dX12_isBig_12 ?_
      refine G_goto (tgt := 17) (pc := 13) dX12_isBig_13 ?_
      refine G_fg (lv2 := [vU]) ⟨Or.inl rfl, trivial⟩ ?_
      exact gX12_isBig_J17 hst fu s 1
def fX12_isSmall_J17 (fu : Nat) (s : z_M) (t0 : Int) : z_O := if z_bl t0 then some (vI t0, s) else none
theorem gX12_isSmall_J17 {l : Launch} {K : z_K} (hst : l.stackTraces = false) (fu : Nat) (s : z_M) (t0 : Int) : G l K mX12_isSmall 0 0 0 0 17 [vU] [vI t0] s (fX12_isSmall_J17 fu s t0) := by
  unfold fX12_isSmall_J17
  exact G_zret (pc := 17) dX12_isSmall_17
def fX12_isSmall_J16 (fu : Nat) (s : z_M) : z_O := fX12_isSmall_J17 fu s 0
theorem gX12_isSmall_J16 {l : Launch} {K : z_K} (hst : l.stackTraces = false) (fu : Nat) (s : z_M) : G l K mX12_isSmall 0 0 0 0 16 [vU] [] s (fX12_isSmall_J16 fu s) := by
  unfold fX12_isSmall_J16
  refine G_iconst (pc := 16) dX12_isSmall_16 ?_
  exact gX12_isSmall_J17 hst fu s 0
def fX12_isSmall (fu : Nat) (s : z_M) (a0 : Int) : z_O := if (a0 : Int) < 97 then (fX12_isSmall_J16 fu s) else (if (122 : Int) < a0 then (fX12_isSmall_J16 fu s) else (fX12_isSmall_J17 fu s 1))
theorem gX12_isSmall {l : Launch} {K : z_K} (hst : l.stackTraces = false) (fu : Nat) (s : z_M) (a0 : Int) : z_D l K mX12_isSmall 0 0 0 0 [vI a0] s (fX12_isSmall fu s a0) := by
  refine z_D_of (lv := [vI a0]) hst z_mX12_isSmall rfl ?_ (Nat.le_of_ble_eq_true rfl) rfl
  unfold fX12_isSmall
  refine G_iload_n (x := a0) (pc := 0) dX12_isSmall_0 rfl ?_
  refine G_bipush (pc := 1) dX12_isSmall_1 ?_
  refine G_icmp_lt (tgt := 16) (pc := 3) dX12_isSmall_3 ?_ ?_
  · refine G_fg (lv2 := [vU]) ⟨Or.inl rfl, trivial⟩ ?_
    exact gX12_isSmall_J16 hst fu s
  · refine G_iload_n (x := a0) (pc := 6) dX12_isSmall_6 rfl ?_
    refine G_bipush (pc := 7) dX12_isSmall_7 ?_
    refine G_icmp_gt (tgt := 16) (pc := 9) dX12_isSmall_9 ?_ ?_
    · refine G_fg (lv2 := [vU]) ⟨Or.inl rfl, trivial⟩ ?_
      exact gX12_isSmall_J16 hst fu s
    · refine G_iconst (pc := 12) dX12_isSmall_12 ?_
      refine G_goto (tgt := 17) (pc := 13) dX12_isSmall_13 ?_
      refine G_fg (lv2 := [vU]) ⟨Or.inl rfl, trivial⟩ ?_
      exact gX12_isSmall_J17 hst fu s 1
def fX12_plainKind_J80 (fu : Nat) (s : z_M) (t0 : Int) : z_O := some (vI t0, s)
theorem gX12_plainKind_J80 {l : Launch} {K : z_K} (hst : l.stackTraces = false) (fu : Nat) (s : z_M) (t0 : Int) : G l K mX12_plainKind 1 20 0 0 80 [vU] [vI t0] s (fX12_plainKind_J80 fu s t0) := by
  unfold fX12_plainKind_J80
  exact G_iret (pc := 80) dX12_plainKind_80
def fX12_plainKind_J44 (fu : Nat) (s : z_M) : z_O := fX12_plainKind_J80 fu s 3
theorem gX12_plainKind_J44 {l : Launch} {K : z_K} (hst : l.stackTraces = false) (fu : Nat) (s : z_M) : G l K mX12_plainKind 1 20 0 0 44 [vU] [] s (fX12_plainKind_J44 fu s) := by
  unfold fX12_plainKind_J44
  refine G_iconst (pc := 44) dX12_plainKind_44 ?_
  refine G_goto (tgt := 80) (pc := 45) dX12_plainKind_45 ?_
  exact gX12_plainKind_J80 hst fu s 3
def fX12_plainKind_J32 (fu : Nat) (s : z_M) (a0 : Int) : z_O := if (a0 : Int) = 46 then (fX12_plainKind_J44 fu s) else (if (a0 : Int) ≠ 44 then (if (a0 : Int) ≠ 40 then (if (a0 : Int) ≠ 41 then (if (a0 : Int) ≠ 32 then (fX12_plainKind_J80 fu s (-1)) else (fX12_plainKind_J80 fu s 6)) else (fX12_plainKind_J80 fu s 5)) else (fX12_plainKind_J80 fu s 4)) else (fX12_plainKind_J44 fu s))
theorem gX12_plainKind_J32 {l : Launch} {K : z_K} (hst : l.stackTraces = false) (fu : Nat) (s : z_M) (a0 : Int) : G l K mX12_plainKind 1 20 0 0 32 [vI a0] [] s (fX12_plainKind_J32 fu s a0) := by
  unfold fX12_plainKind_J32
  refine G_iload_n (x := a0) (pc := 32) dX12_plainKind_32 rfl ?_
  refine G_bipush (pc := 33) dX12_plainKind_33 ?_
  refine G_icmp_eq (tgt := 44) (pc := 35) dX12_plainKind_35 ?_ ?_
  · refine G_fg (lv2 := [vU]) ⟨Or.inl rfl, trivial⟩ ?_
    exact gX12_plainKind_J44 hst fu s
  · refine G_iload_n (x := a0) (pc := 38) dX12_plainKind_38 rfl ?_
    refine G_bipush (pc := 39) dX12_plainKind_39 ?_
    refine G_icmp_ne (tgt := 48) (pc := 41) dX12_plainKind_41 ?_ ?_
    · refine G_iload_n (x := a0) (pc := 48) dX12_plainKind_48 rfl ?_
      refine G_bipush (pc := 49) dX12_plainKind_49 ?_
      refine G_icmp_ne (tgt := 58) (pc := 51) dX12_plainKind_51 ?_ ?_
      · refine G_iload_n (x := a0) (pc := 58) dX12_plainKind_58 rfl ?_
        refine G_bipush (pc := 59) dX12_plainKind_59 ?_
        refine G_icmp_ne (tgt := 68) (pc := 61) dX12_plainKind_61 ?_ ?_
        · refine G_iload_n (x := a0) (pc := 68) dX12_plainKind_68 rfl ?_
          refine G_bipush (pc := 69) dX12_plainKind_69 ?_
          refine G_icmp_ne (tgt := 79) (pc := 71) dX12_plainKind_71 ?_ ?_
          · refine G_iconst (pc := 79) dX12_plainKind_79 ?_
            refine G_fg (lv2 := [vU]) ⟨Or.inl rfl, trivial⟩ ?_
            exact gX12_plainKind_J80 hst fu s (-1)
          · refine G_bipush (pc := 74) dX12_plainKind_74 ?_
            refine G_goto (tgt := 80) (pc := 76) dX12_plainKind_76 ?_
            refine G_fg (lv2 := [vU]) ⟨Or.inl rfl, trivial⟩ ?_
            exact gX12_plainKind_J80 hst fu s 6
        · refine G_iconst (pc := 64) dX12_plainKind_64 ?_
          refine G_goto (tgt := 80) (pc := 65) dX12_plainKind_65 ?_
          refine G_fg (lv2 := [vU]) ⟨Or.inl rfl, trivial⟩ ?_
          exact gX12_plainKind_J80 hst fu s 5
      · refine G_iconst (pc := 54) dX12_plainKind_54 ?_
        refine G_goto (tgt := 80) (pc := 55) dX12_plainKind_55 ?_
        refine G_fg (lv2 := [vU]) ⟨Or.inl rfl, trivial⟩ ?_
        exact gX12_plainKind_J80 hst fu s 4
    · refine G_fg (lv2 := [vU]) ⟨Or.inl rfl, trivial⟩ ?_
      exact gX12_plainKind_J44 hst fu s
def fX12_plainKind (fu : Nat) (s : z_M) (a0 : Int) : z_O := z_bI (fX12_isBig fu s a0) (fun x2 s1 => if (x2 : Int) = 0 then (z_bI (fX12_isSmall fu s1 a0) (fun x4 s3 => if (x4 : Int) = 0 then (if (a0 : Int) < 48 then (fX12_plainKind_J32 fu s3 a0) else (if (57 : Int) < a0 then (fX12_plainKind_J32 fu s3 a0) else (some (vI 2, s3)))) else (some (vI 1, s3)))) else (some (vI 0, s1)))
theorem gX12_plainKind {l : Launch} {K : z_K} (hst : l.stackTraces = false) (fu : Nat) (s : z_M) (a0 : Int) : z_D l K mX12_plainKind 1 20 0 0 [vI a0] s (fX12_plainKind fu s a0) := by
  refine z_D_of (lv := [vI a0]) hst z_mX12_plainKind rfl ?_ (Nat.le_of_ble_eq_true rfl) rfl
  unfold fX12_plainKind
  refine G_iload_n (x := a0) (pc := 0) dX12_plainKind_0 rfl ?_
  refine G_callSI (as := [vI a0]) (st := []) (bc2 := 0) (bs2 := 0) (pc := 1) dX12_plainKind_1 z_mX12_isBig z_sX12_isBig z_wX12_188 (gX12_isBig hst fu s a0) rfl rfl ⟨by decide, by decide, by decide, by decide, Nat.le_of_ble_eq_true rfl⟩ rfl (fun x2 s1 => ?_)
  refine G_if_eq (tgt := 9) (pc := 4) dX12_plainKind_4 ?_ ?_
  · refine G_iload_n (x := a0) (pc := 9) dX12_plainKind_9 rfl ?_
    refine G_callSI (as := [vI a0]) (st := []) (bc2 := 0) (bs2 := 0) (pc := 10) dX12_plainKind_10 z_mX12_isSmall z_sX12_isSmall z_wX12_192 (gX12_isSmall hst fu s1 a0) rfl rfl ⟨by decide, by decide, by decide, by decide, Nat.le_of_ble_eq_true rfl⟩ rfl (fun x4 s3 => ?_)
    refine G_if_eq (tgt := 18) (pc := 13) dX12_plainKind_13 ?_ ?_
    · refine G_iload_n (x := a0) (pc := 18) dX12_plainKind_18 rfl ?_
      refine G_bipush (pc := 19) dX12_plainKind_19 ?_
      refine G_icmp_lt (tgt := 32) (pc := 21) dX12_plainKind_21 ?_ ?_
      · exact gX12_plainKind_J32 hst fu s3 a0
      · refine G_iload_n (x := a0) (pc := 24) dX12_plainKind_24 rfl ?_
        refine G_bipush (pc := 25) dX12_plainKind_25 ?_
        refine G_icmp_gt (tgt := 32) (pc := 27) dX12_plainKind_27 ?_ ?_
        · exact gX12_plainKind_J32 hst fu s3 a0
        · refine G_iconst (pc := 30) dX12_plainKind_30 ?_
          exact G_iret (pc := 31) dX12_plainKind_31
    · refine G_iconst (pc := 16) dX12_plainKind_16 ?_
      exact G_iret (pc := 17) dX12_plainKind_17
  · refine G_iconst (pc := 7) dX12_plainKind_7 ?_
    exact G_iret (pc := 8) dX12_plainKind_8
def fX12_wrong_J17 (fu : Nat) (s : z_M) : z_O := some (vN, s)
theorem gX12_wrong_J17 {l : Launch} {K : z_K} (hst : l.stackTraces = false) (fu : Nat) (s : z_M) : G l K mX12_wrong 0 0 0 0 17 [vU, vU, vU] [] s (fX12_wrong_J17 fu s) := by
  unfold fX12_wrong_J17
  exact G_vret (pc := 17) dX12_wrong_17
def fX12_wrong (fu : Nat) (s : z_M) (a0 : Int) (a1 : Int) (a2 : Int) : z_O := if z_ob a0 12 then z_let (s a0 6) (fun x1 => if (x1 : Int) ≠ 0 then (fX12_wrong_J17 fu s) else (if z_ob a0 12 then z_let (z_up s a0 6 a1) (fun s2 => if z_ob a0 12 then z_let (z_up s2 a0 7 a2) (fun s3 => fX12_wrong_J17 fu s3) else none) else none)) else none
theorem gX12_wrong {l : Launch} {K : z_K} (hst : l.stackTraces = false) (fu : Nat) (s : z_M) (a0 : Int) (a1 : Int) (a2 : Int) : z_D l K mX12_wrong 0 0 0 0 [vR a0, vI a1, vI a2] s (fX12_wrong fu s a0 a1 a2) := by
  refine z_D_of (lv := [vR a0, vI a1, vI a2]) hst z_mX12_wrong rfl ?_ (Nat.le_of_ble_eq_true rfl) rfl
  unfold fX12_wrong
  refine G_aload_n (x := a0) (pc := 0) dX12_wrong_0 rfl ?_
  refine G_getI (j := 6) (pc := 1) dX12_wrong_1 rfl z_CLX12 (by decide) z_wX12_182 (by decide) (fun x1 => ?_)
  refine G_if_ne (tgt := 17) (pc := 4) dX12_wrong_4 ?_ ?_
  · refine G_fg (lv2 := [vU, vU, vU]) ⟨Or.inl rfl, Or.inl rfl, Or.inl rfl, trivial⟩ ?_
    exact gX12_wrong_J17 hst fu s
  · refine G_aload_n (x := a0) (pc := 7) dX12_wrong_7 rfl ?_
    refine G_iload_n (x := a1) (pc := 8) dX12_wrong_8 rfl ?_
    refine G_putI (j := 6) (pc := 9) dX12_wrong_9 rfl z_CLX12 (by decide) z_wX12_182 rfl (by decide) (by decide) (fun s2 => ?_)
    refine G_aload_n (x := a0) (pc := 12) dX12_wrong_12 rfl ?_
    refine G_iload_n (x := a2) (pc := 13) dX12_wrong_13 rfl ?_
    refine G_putI (j := 7) (pc := 14) dX12_wrong_14 rfl z_CLX12 (by decide) z_wX12_185 rfl (by decide) (by decide) (fun s3 => ?_)
    refine G_fg (lv2 := [vU, vU, vU]) ⟨Or.inl rfl, Or.inl rfl, Or.inl rfl, trivial⟩ ?_
    exact gX12_wrong_J17 hst fu s3
def fX12_addsSign_J103 (fu : Nat) (s : z_M) (a0 : Int) (t0 : Int) (t1 : Int) (t2 : Int) : z_O := if z_ix t0 100 t1 then z_let (z_up s t0 t1 t2) (fun s23 => if z_ob a0 12 then z_let (z_gr a0 12) (fun x24 => if z_ix x24 103 13 then z_let (z_gr x24 13) (fun x25 => if z_ix x25 100 0 then z_let (s23 x25 0) (fun x26 => z_let (z_w (x26 + 1)) (fun x27 => if z_ix x25 100 0 then z_let (z_up s23 x25 0 x27) (fun s28 => if z_ob a0 12 then z_let (s28 a0 4) (fun x29 => z_let (z_w (x29 + 1)) (fun x30 => if z_ob a0 12 then z_let (z_up s28 a0 4 x30) (fun s31 => some (vN, s31)) else none)) else none) else none)) else none) else none) else none) else none
theorem gX12_addsSign_J103 {l : Launch} {K : z_K} (hst : l.stackTraces = false) (fu : Nat) (s : z_M) (a0 : Int) (t0 : Int) (t1 : Int) (t2 : Int) : G l K mX12_addsSign 1 22 0 0 103 [vR a0, vU, vU, vU] [vI t2, vI t1, vR t0] s (fX12_addsSign_J103 fu s a0 t0 t1 t2) := by
  unfold fX12_addsSign_J103
  refine G_iast (pc := 103) dX12_addsSign_103 (fun s23 => ?_)
  refine G_aload_n (x := a0) (pc := 104) dX12_addsSign_104 rfl ?_
  refine G_getR (j := 12) (pc := 105) dX12_addsSign_105 rfl z_CLX12 (by decide) z_wX12_31 (by decide) (fun x24 => ?_)
  refine G_bipush (pc := 108) dX12_addsSign_108 ?_
  refine G_aald103 (pc := 110) dX12_addsSign_110 (fun x25 => ?_)
  refine G_iconst (pc := 111) dX12_addsSign_111 ?_
  refine G_dup2 (pc := 112) dX12_addsSign_112 ?_
  refine G_iald (pc := 113) dX12_addsSign_113 (fun x26 => ?_)
  refine G_iconst (pc := 114) dX12_addsSign_114 ?_
  refine G_iadd (pc := 115) dX12_addsSign_115 (fun x27 => ?_)
  refine G_iast (pc := 116) dX12_addsSign_116 (fun s28 => ?_)
  refine G_aload_n (x := a0) (pc := 117) dX12_addsSign_117 rfl ?_
  refine G_dupR (pc := 118) dX12_addsSign_118 ?_
  refine G_getI (j := 4) (pc := 119) dX12_addsSign_119 rfl z_CLX12 (by decide) z_wX12_176 (by decide) (fun x29 => ?_)
  refine G_iconst (pc := 122) dX12_addsSign_122 ?_
  refine G_iadd (pc := 123) dX12_addsSign_123 (fun x30 => ?_)
  refine G_putI (j := 4) (pc := 124) dX12_addsSign_124 rfl z_CLX12 (by decide) z_wX12_176 rfl (by decide) (by decide) (fun s31 => ?_)
  exact G_vret (pc := 127) dX12_addsSign_127
def fX12_addsSign_J90 (fu : Nat) (s : z_M) (a0 : Int) (t0 : Int) (t1 : Int) : z_O := if z_ob a0 12 then z_let (z_gr a0 12) (fun x20 => if z_ix x20 103 13 then z_let (z_gr x20 13) (fun x21 => if z_ix x21 100 2 then z_let (s x21 2) (fun x22 => fX12_addsSign_J103 fu s a0 t0 t1 x22) else none) else none) else none
theorem gX12_addsSign_J90 {l : Launch} {K : z_K} (hst : l.stackTraces = false) (fu : Nat) (s : z_M) (a0 : Int) (t0 : Int) (t1 : Int) : G l K mX12_addsSign 1 22 0 0 90 [vR a0, vU, vU, vU] [vI t1, vR t0] s (fX12_addsSign_J90 fu s a0 t0 t1) := by
  unfold fX12_addsSign_J90
  refine G_aload_n (x := a0) (pc := 90) dX12_addsSign_90 rfl ?_
  refine G_getR (j := 12) (pc := 91) dX12_addsSign_91 rfl z_CLX12 (by decide) z_wX12_31 (by decide) (fun x20 => ?_)
  refine G_bipush (pc := 94) dX12_addsSign_94 ?_
  refine G_aald103 (pc := 96) dX12_addsSign_96 (fun x21 => ?_)
  refine G_iconst (pc := 97) dX12_addsSign_97 ?_
  refine G_iald (pc := 98) dX12_addsSign_98 (fun x22 => ?_)
  refine G_goto (tgt := 103) (pc := 99) dX12_addsSign_99 ?_
  exact gX12_addsSign_J103 hst fu s a0 t0 t1 x22
def fX12_addsSign_J26 (fu : Nat) (s : z_M) (a0 : Int) (a1 : Int) (a2 : Int) (a3 : Int) : z_O := if z_ob a0 12 then z_bI (fX12_fine fu s a0) (fun x5 s4 => if (x5 : Int) ≠ 0 then (if z_ob a0 12 then z_let (z_gr a0 13) (fun x6 => if z_ix x6 103 13 then z_let (z_gr x6 13) (fun x7 => if z_ob a0 12 then z_let (z_gr a0 8) (fun x8 => if z_ob a0 12 then z_let (s4 a0 4) (fun x9 => if z_ix x8 100 x9 then z_let (s4 x8 x9) (fun x10 => if z_ix x7 100 a3 then z_let (z_up s4 x7 a3 x10) (fun s11 => if z_ob a0 12 then z_let (z_gr a0 14) (fun x12 => if z_ix x12 103 13 then z_let (z_gr x12 13) (fun x13 => if z_ix x13 100 a3 then z_let (z_up s11 x13 a3 a1) (fun s14 => if z_ob a0 12 then z_let (z_gr a0 15) (fun x15 => if z_ix x15 103 13 then z_let (z_gr x15 13) (fun x16 => if z_ix x16 100 a3 then z_let (z_up s14 x16 a3 a2) (fun s17 => if z_ob a0 12 then z_let (z_gr a0 16) (fun x18 => if z_ix x18 103 13 then z_let (z_gr x18 13) (fun x19 => if (a1 : Int) = 0 then (fX12_addsSign_J90 fu s17 a0 x19 a3) else (if (a1 : Int) ≠ 7 then (fX12_addsSign_J103 fu s17 a0 x19 a3 0) else (fX12_addsSign_J90 fu s17 a0 x19 a3))) else none) else none) else none) else none) else none) else none) else none) else none) else none) else none) else none) else none) else none) else none) else (some (vN, s4))) else none
theorem gX12_addsSign_J26 {l : Launch} {K : z_K} (hst : l.stackTraces = false) (fu : Nat) (s : z_M) (a0 : Int) (a1 : Int) (a2 : Int) (a3 : Int) : G l K mX12_addsSign 1 22 0 0 26 [vR a0, vI a1, vI a2, vI a3] [] s (fX12_addsSign_J26 fu s a0 a1 a2 a3) := by
  unfold fX12_addsSign_J26
  refine G_aload_n (x := a0) (pc := 26) dX12_addsSign_26 rfl ?_
  refine G_callVI (as := []) (st := []) (c := 12) (bc2 := 0) (bs2 := 0) (pc := 27) dX12_addsSign_27 z_mX12_fine z_vX12_fine z_wX12_199 (gX12_fine hst fu s a0) rfl rfl (by decide) rfl rfl ⟨by decide, by decide, by decide, by decide, Nat.le_of_ble_eq_true rfl⟩ rfl (fun x5 s4 => ?_)
  refine G_if_ne (tgt := 34) (pc := 30) dX12_addsSign_30 ?_ ?_
  · refine G_aload_n (x := a0) (pc := 34) dX12_addsSign_34 rfl ?_
    refine G_getR (j := 13) (pc := 35) dX12_addsSign_35 rfl z_CLX12 (by decide) z_wX12_34 (by decide) (fun x6 => ?_)
    refine G_bipush (pc := 38) dX12_addsSign_38 ?_
    refine G_aald103 (pc := 40) dX12_addsSign_40 (fun x7 => ?_)
    refine G_iload_n (x := a3) (pc := 41) dX12_addsSign_41 rfl ?_
    refine G_aload_n (x := a0) (pc := 42) dX12_addsSign_42 rfl ?_
    refine G_getR (j := 8) (pc := 43) dX12_addsSign_43 rfl z_CLX12 (by decide) z_wX12_17 (by decide) (fun x8 => ?_)
    refine G_aload_n (x := a0) (pc := 46) dX12_addsSign_46 rfl ?_
    refine G_getI (j := 4) (pc := 47) dX12_addsSign_47 rfl z_CLX12 (by decide) z_wX12_176 (by decide) (fun x9 => ?_)
    refine G_iald (pc := 50) dX12_addsSign_50 (fun x10 => ?_)
    refine G_iast (pc := 51) dX12_addsSign_51 (fun s11 => ?_)
    refine G_aload_n (x := a0) (pc := 52) dX12_addsSign_52 rfl ?_
    refine G_getR (j := 14) (pc := 53) dX12_addsSign_53 rfl z_CLX12 (by decide) z_wX12_37 (by decide) (fun x12 => ?_)
    refine G_bipush (pc := 56) dX12_addsSign_56 ?_
    refine G_aald103 (pc := 58) dX12_addsSign_58 (fun x13 => ?_)
    refine G_iload_n (x := a3) (pc := 59) dX12_addsSign_59 rfl ?_
    refine G_iload_n (x := a1) (pc := 60) dX12_addsSign_60 rfl ?_
    refine G_iast (pc := 61) dX12_addsSign_61 (fun s14 => ?_)
    refine G_aload_n (x := a0) (pc := 62) dX12_addsSign_62 rfl ?_
    refine G_getR (j := 15) (pc := 63) dX12_addsSign_63 rfl z_CLX12 (by decide) z_wX12_40 (by decide) (fun x15 => ?_)
    refine G_bipush (pc := 66) dX12_addsSign_66 ?_
    refine G_aald103 (pc := 68) dX12_addsSign_68 (fun x16 => ?_)
    refine G_iload_n (x := a3) (pc := 69) dX12_addsSign_69 rfl ?_
    refine G_iload_n (x := a2) (pc := 70) dX12_addsSign_70 rfl ?_
    refine G_iast (pc := 71) dX12_addsSign_71 (fun s17 => ?_)
    refine G_aload_n (x := a0) (pc := 72) dX12_addsSign_72 rfl ?_
    refine G_getR (j := 16) (pc := 73) dX12_addsSign_73 rfl z_CLX12 (by decide) z_wX12_43 (by decide) (fun x18 => ?_)
    refine G_bipush (pc := 76) dX12_addsSign_76 ?_
    refine G_aald103 (pc := 78) dX12_addsSign_78 (fun x19 => ?_)
    refine G_iload_n (x := a3) (pc := 79) dX12_addsSign_79 rfl ?_
    refine G_iload_n (x := a1) (pc := 80) dX12_addsSign_80 rfl ?_
    refine G_if_eq (tgt := 90) (pc := 81) dX12_addsSign_81 ?_ ?_
    · refine G_fg (lv2 := [vR a0, vU, vU, vU]) ⟨Or.inr rfl, Or.inl rfl, Or.inl rfl, Or.inl rfl, trivial⟩ ?_
      exact gX12_addsSign_J90 hst fu s17 a0 x19 a3
    · refine G_iload_n (x := a1) (pc := 84) dX12_addsSign_84 rfl ?_
      refine G_bipush (pc := 85) dX12_addsSign_85 ?_
      refine G_icmp_ne (tgt := 102) (pc := 87) dX12_addsSign_87 ?_ ?_
      · refine G_iconst (pc := 102) dX12_addsSign_102 ?_
        refine G_fg (lv2 := [vR a0, vU, vU, vU]) ⟨Or.inr rfl, Or.inl rfl, Or.inl rfl, Or.inl rfl, trivial⟩ ?_
        exact gX12_addsSign_J103 hst fu s17 a0 x19 a3 0
      · refine G_fg (lv2 := [vR a0, vU, vU, vU]) ⟨Or.inr rfl, Or.inl rfl, Or.inl rfl, Or.inl rfl, trivial⟩ ?_
        exact gX12_addsSign_J90 hst fu s17 a0 x19 a3
  · exact G_vret (pc := 33) dX12_addsSign_33
def fX12_addsSign (fu : Nat) (s : z_M) (a0 : Int) (a1 : Int) (a2 : Int) : z_O := if z_ob a0 12 then z_let (z_gr a0 12) (fun x1 => if z_ix x1 103 13 then z_let (z_gr x1 13) (fun x2 => if z_ix x2 100 0 then z_let (s x2 0) (fun x3 => if (x3 : Int) ≠ 200 then (fX12_addsSign_J26 fu s a0 a1 a2 x3) else (if z_ob a0 12 then z_let (s a0 4) (fun x32 => if z_ob a0 12 then z_bN (fX12_wrong fu s a0 2 x32) (fun s33 => fX12_addsSign_J26 fu s33 a0 a1 a2 x3) else none) else none)) else none) else none) else none
theorem gX12_addsSign {l : Launch} {K : z_K} (hst : l.stackTraces = false) (fu : Nat) (s : z_M) (a0 : Int) (a1 : Int) (a2 : Int) : z_D l K mX12_addsSign 1 22 0 0 [vR a0, vI a1, vI a2] s (fX12_addsSign fu s a0 a1 a2) := by
  refine z_D_of (lv := [vR a0, vI a1, vI a2, vU]) hst z_mX12_addsSign rfl ?_ (Nat.le_of_ble_eq_true rfl) rfl
  unfold fX12_addsSign
  refine G_aload_n (x := a0) (pc := 0) dX12_addsSign_0 rfl ?_
  refine G_getR (j := 12) (pc := 1) dX12_addsSign_1 rfl z_CLX12 (by decide) z_wX12_31 (by decide) (fun x1 => ?_)
  refine G_bipush (pc := 4) dX12_addsSign_4 ?_
  refine G_aald103 (pc := 6) dX12_addsSign_6 (fun x2 => ?_)
  refine G_iconst (pc := 7) dX12_addsSign_7 ?_
  refine G_iald (pc := 8) dX12_addsSign_8 (fun x3 => ?_)
  refine G_istore_n (lv' := [vR a0, vI a1, vI a2, vI x3]) (pc := 9) dX12_addsSign_9 rfl ?_
  refine G_iload_n (x := x3) (pc := 10) dX12_addsSign_10 rfl ?_
  refine G_sipush (pc := 11) dX12_addsSign_11 ?_
  refine G_icmp_ne (tgt := 26) (pc := 14) dX12_addsSign_14 ?_ ?_
  · exact gX12_addsSign_J26 hst fu s a0 a1 a2 x3
  · refine G_aload_n (x := a0) (pc := 17) dX12_addsSign_17 rfl ?_
    refine G_iconst (pc := 18) dX12_addsSign_18 ?_
    refine G_aload_n (x := a0) (pc := 19) dX12_addsSign_19 rfl ?_
    refine G_getI (j := 4) (pc := 20) dX12_addsSign_20 rfl z_CLX12 (by decide) z_wX12_176 (by decide) (fun x32 => ?_)
    refine G_callVN (as := [vI 2, vI x32]) (st := []) (c := 12) (bc2 := 0) (bs2 := 0) (pc := 23) dX12_addsSign_23 z_mX12_wrong z_vX12_wrong z_wX12_195 (gX12_wrong hst fu s a0 2 x32) rfl rfl (by decide) rfl rfl ⟨by decide, by decide, by decide, by decide, Nat.le_of_ble_eq_true rfl⟩ rfl (fun s33 => ?_)
    exact gX12_addsSign_J26 hst fu s33 a0 a1 a2 x3
def fX12_groupsOf_J34 (fu : Nat) (s : z_M) (t0 : Int) : z_O := some (vI t0, s)
theorem gX12_groupsOf_J34 {l : Launch} {K : z_K} (hst : l.stackTraces = false) (fu : Nat) (s : z_M) (t0 : Int) : G l K mX12_groupsOf 0 0 0 0 34 [vU, vU] [vI t0] s (fX12_groupsOf_J34 fu s t0) := by
  unfold fX12_groupsOf_J34
  exact G_iret (pc := 34) dX12_groupsOf_34
def fX12_groupsOf (fu : Nat) (s : z_M) (a0 : Int) (a1 : Int) : z_O := if z_ob a0 12 then z_let (z_gr a0 12) (fun x1 => if z_ix x1 103 a1 then z_let (z_gr x1 a1) (fun x2 => if z_ix x2 100 1 then z_let (s x2 1) (fun x3 => if (x3 : Int) ≠ 0 then (if z_ob a0 12 then z_let (z_gr a0 17) (fun x4 => if z_ix x4 103 a1 then z_let (z_gr x4 a1) (fun x5 => if z_ob a0 12 then z_let (z_gr a0 12) (fun x6 => if z_ix x6 103 a1 then z_let (z_gr x6 a1) (fun x7 => if z_ix x7 100 1 then z_let (s x7 1) (fun x8 => z_let (z_w (x8 - 1)) (fun x9 => if z_ix x5 100 x9 then z_let (s x5 x9) (fun x10 => z_let (z_w (x10 + 1)) (fun x11 => fX12_groupsOf_J34 fu s x11)) else none)) else none) else none) else none) else none) else none) else (fX12_groupsOf_J34 fu s 0)) else none) else none) else none
theorem gX12_groupsOf {l : Launch} {K : z_K} (hst : l.stackTraces = false) (fu : Nat) (s : z_M) (a0 : Int) (a1 : Int) : z_D l K mX12_groupsOf 0 0 0 0 [vR a0, vI a1] s (fX12_groupsOf fu s a0 a1) := by
  refine z_D_of (lv := [vR a0, vI a1]) hst z_mX12_groupsOf rfl ?_ (Nat.le_of_ble_eq_true rfl) rfl
  unfold fX12_groupsOf
  refine G_aload_n (x := a0) (pc := 0) dX12_groupsOf_0 rfl ?_
  refine G_getR (j := 12) (pc := 1) dX12_groupsOf_1 rfl z_CLX12 (by decide) z_wX12_31 (by decide) (fun x1 => ?_)
  refine G_iload_n (x := a1) (pc := 4) dX12_groupsOf_4 rfl ?_
  refine G_aald103 (pc := 5) dX12_groupsOf_5 (fun x2 => ?_)
  refine G_iconst (pc := 6) dX12_groupsOf_6 ?_
  refine G_iald (pc := 7) dX12_groupsOf_7 (fun x3 => ?_)
  refine G_if_ne (tgt := 15) (pc := 8) dX12_groupsOf_8 ?_ ?_
  · refine G_aload_n (x := a0) (pc := 15) dX12_groupsOf_15 rfl ?_
    refine G_getR (j := 17) (pc := 16) dX12_groupsOf_16 rfl z_CLX12 (by decide) z_wX12_46 (by decide) (fun x4 => ?_)
    refine G_iload_n (x := a1) (pc := 19) dX12_groupsOf_19 rfl ?_
    refine G_aald103 (pc := 20) dX12_groupsOf_20 (fun x5 => ?_)
    refine G_aload_n (x := a0) (pc := 21) dX12_groupsOf_21 rfl ?_
    refine G_getR (j := 12) (pc := 22) dX12_groupsOf_22 rfl z_CLX12 (by decide) z_wX12_31 (by decide) (fun x6 => ?_)
    refine G_iload_n (x := a1) (pc := 25) dX12_groupsOf_25 rfl ?_
    refine G_aald103 (pc := 26) dX12_groupsOf_26 (fun x7 => ?_)
    refine G_iconst (pc := 27) dX12_groupsOf_27 ?_
    refine G_iald (pc := 28) dX12_groupsOf_28 (fun x8 => ?_)
    refine G_iconst (pc := 29) dX12_groupsOf_29 ?_
    refine G_isub (pc := 30) dX12_groupsOf_30 (fun x9 => ?_)
    refine G_iald (pc := 31) dX12_groupsOf_31 (fun x10 => ?_)
    refine G_iconst (pc := 32) dX12_groupsOf_32 ?_
    refine G_iadd (pc := 33) dX12_groupsOf_33 (fun x11 => ?_)
    refine G_fg (lv2 := [vU, vU]) ⟨Or.inl rfl, Or.inl rfl, trivial⟩ ?_
    exact gX12_groupsOf_J34 hst fu s x11
  · refine G_iconst (pc := 11) dX12_groupsOf_11 ?_
    refine G_goto (tgt := 34) (pc := 12) dX12_groupsOf_12 ?_
    refine G_fg (lv2 := [vU, vU]) ⟨Or.inl rfl, Or.inl rfl, trivial⟩ ?_
    exact gX12_groupsOf_J34 hst fu s 0
def fX12_readsReading_J83 (fu : Nat) (s : z_M) (a0 : Int) (a2 : Int) (a3 : Int) (r : z_M → z_O) (k : z_M → z_O) : z_O := if z_ob a0 12 then z_bI (fX12_fine fu s a0) (fun x22 s21 => if (x22 : Int) ≠ 0 then (z_let (z_w (10 * a2)) (fun x23 => if z_ix a3 100 x23 then z_let (s21 a3 x23) (fun x24 => z_let (z_w (x24 + 1)) (fun x25 => if z_ix a3 100 x23 then z_let (z_up s21 a3 x23 x25) (fun s26 => z_let (z_w (10 * a2)) (fun x27 => z_let (z_w (10 * a2)) (fun x28 => if z_ix a3 100 x28 then z_let (s26 a3 x28) (fun x29 => z_let (z_w (x27 + x29)) (fun x30 => if z_ob a0 12 then z_let (z_gr a0 8) (fun x31 => if z_ob a0 12 then z_let (s26 a0 4) (fun x32 => if z_ix x31 100 x32 then z_let (s26 x31 x32) (fun x33 => if z_ix a3 100 x30 then z_let (z_up s26 a3 x30 x33) (fun s34 => if z_ob a0 12 then z_let (s34 a0 4) (fun x35 => z_let (z_w (x35 + 1)) (fun x36 => if z_ob a0 12 then z_let (z_up s34 a0 4 x36) (fun s37 => r s37) else none)) else none) else none) else none) else none) else none)) else none))) else none)) else none)) else (some (vN, s21))) else none
theorem gX12_readsReading_J83 {l : Launch} {K : z_K} (hst : l.stackTraces = false) (fu : Nat) (s : z_M) (a0 : Int) (a2 : Int) (a3 : Int) (r : z_M → z_O) (k : z_M → z_O) (hr : ∀ (s : z_M), G l K mX12_readsReading 1 22 0 0 46 [vR a0, vU, vI a2, vR a3] [] s (r s)) (hk : ∀ (s : z_M), G l K mX12_readsReading 1 22 0 0 136 [vU, vU, vU, vU] [] s (k s)) : G l K mX12_readsReading 1 22 0 0 83 [vR a0, vU, vI a2, vR a3] [] s (fX12_readsReading_J83 fu s a0 a2 a3 r k) := by
  unfold fX12_readsReading_J83
  refine G_aload_n (x := a0) (pc := 83) dX12_readsReading_83 rfl ?_
  refine G_callVI (as := []) (st := []) (c := 12) (bc2 := 0) (bs2 := 0) (pc := 84) dX12_readsReading_84 z_mX12_fine z_vX12_fine z_wX12_199 (gX12_fine hst fu s a0) rfl rfl (by decide) rfl rfl ⟨by decide, by decide, by decide, by decide, Nat.le_of_ble_eq_true rfl⟩ rfl (fun x22 s21 => ?_)
  refine G_if_ne (tgt := 91) (pc := 87) dX12_readsReading_87 ?_ ?_
  · refine G_aload_n (x := a3) (pc := 91) dX12_readsReading_91 rfl ?_
    refine G_bipush (pc := 92) dX12_readsReading_92 ?_
    refine G_iload_n (x := a2) (pc := 94) dX12_readsReading_94 rfl ?_
    refine G_imul (pc := 95) dX12_readsReading_95 (fun x23 => ?_)
    refine G_dup2 (pc := 96) dX12_readsReading_96 ?_
    refine G_iald (pc := 97) dX12_readsReading_97 (fun x24 => ?_)
    refine G_iconst (pc := 98) dX12_readsReading_98 ?_
    refine G_iadd (pc := 99) dX12_readsReading_99 (fun x25 => ?_)
    refine G_iast (pc := 100) dX12_readsReading_100 (fun s26 => ?_)
    refine G_aload_n (x := a3) (pc := 101) dX12_readsReading_101 rfl ?_
    refine G_bipush (pc := 102) dX12_readsReading_102 ?_
    refine G_iload_n (x := a2) (pc := 104) dX12_readsReading_104 rfl ?_
    refine G_imul (pc := 105) dX12_readsReading_105 (fun x27 => ?_)
    refine G_aload_n (x := a3) (pc := 106) dX12_readsReading_106 rfl ?_
    refine G_bipush (pc := 107) dX12_readsReading_107 ?_
    refine G_iload_n (x := a2) (pc := 109) dX12_readsReading_109 rfl ?_
    refine G_imul (pc := 110) dX12_readsReading_110 (fun x28 => ?_)
    refine G_iald (pc := 111) dX12_readsReading_111 (fun x29 => ?_)
    refine G_iadd (pc := 112) dX12_readsReading_112 (fun x30 => ?_)
    refine G_aload_n (x := a0) (pc := 113) dX12_readsReading_113 rfl ?_
    refine G_getR (j := 8) (pc := 114) dX12_readsReading_114 rfl z_CLX12 (by decide) z_wX12_17 (by decide) (fun x31 => ?_)
    refine G_aload_n (x := a0) (pc := 117) dX12_readsReading_117 rfl ?_
    refine G_getI (j := 4) (pc := 118) dX12_readsReading_118 rfl z_CLX12 (by decide) z_wX12_176 (by decide) (fun x32 => ?_)
    refine G_iald (pc := 121) dX12_readsReading_121 (fun x33 => ?_)
    refine G_iast (pc := 122) dX12_readsReading_122 (fun s34 => ?_)
    refine G_aload_n (x := a0) (pc := 123) dX12_readsReading_123 rfl ?_
    refine G_dupR (pc := 124) dX12_readsReading_124 ?_
    refine G_getI (j := 4) (pc := 125) dX12_readsReading_125 rfl z_CLX12 (by decide) z_wX12_176 (by decide) (fun x35 => ?_)
    refine G_iconst (pc := 128) dX12_readsReading_128 ?_
    refine G_iadd (pc := 129) dX12_readsReading_129 (fun x36 => ?_)
    refine G_putI (j := 4) (pc := 130) dX12_readsReading_130 rfl z_CLX12 (by decide) z_wX12_176 rfl (by decide) (by decide) (fun s37 => ?_)
    refine G_goto (tgt := 46) (pc := 133) dX12_readsReading_133 ?_
    exact hr s37
  · exact G_vret (pc := 90) dX12_readsReading_90
def fX12_readsReading_L46 (fu : Nat) (a0 : Int) (a2 : Int) (a3 : Int) : Nat → z_M → (z_M → z_O) → z_O
  | 0, _, _ => none
  | F + 1, s, k => if z_ob a0 12 then z_bI (fX12_fine fu s a0) (fun x14 s13 => if (x14 : Int) = 0 then (k s13) else (if z_ob a0 12 then z_bI (fX12_here fu s13 a0) (fun x16 s15 => z_bI (fX12_isSmall fu s15 x16) (fun x18 s17 => if (x18 : Int) = 0 then (k s17) else (z_let (z_w (10 * a2)) (fun x19 => if z_ix a3 100 x19 then z_let (s17 a3 x19) (fun x20 => if (x20 : Int) ≠ 9 then (fX12_readsReading_J83 fu s17 a0 a2 a3 (fun w => fX12_readsReading_L46 fu a0 a2 a3 F w k) k) else (if z_ob a0 12 then z_let (s17 a0 4) (fun x38 => if z_ob a0 12 then z_bN (fX12_wrong fu s17 a0 1 x38) (fun s39 => fX12_readsReading_J83 fu s39 a0 a2 a3 (fun w => fX12_readsReading_L46 fu a0 a2 a3 F w k) k) else none) else none)) else none)))) else none)) else none
theorem gX12_readsReading_L46 {l : Launch} {K : z_K} (hst : l.stackTraces = false) (fu : Nat) (a0 : Int) (a2 : Int) (a3 : Int) (k : z_M → z_O) (hk : ∀ (s : z_M), G l K mX12_readsReading 1 22 0 0 136 [vU, vU, vU, vU] [] s (k s)) : ∀ (F : Nat) (s : z_M), G l K mX12_readsReading 1 22 0 0 46 [vR a0, vU, vI a2, vR a3] [] s (fX12_readsReading_L46 fu a0 a2 a3 F s k) := by
  intro F
  induction F with
  | zero => exact fun s h => absurd rfl h
  | succ F ih =>
    intro s
    rw [fX12_readsReading_L46]
    refine G_aload_n (x := a0) (pc := 46) dX12_readsReading_46 rfl ?_
    refine G_callVI (as := []) (st := []) (c := 12) (bc2 := 0) (bs2 := 0) (pc := 47) dX12_readsReading_47 z_mX12_fine z_vX12_fine z_wX12_199 (gX12_fine hst fu s a0) rfl rfl (by decide) rfl rfl ⟨by decide, by decide, by decide, by decide, Nat.le_of_ble_eq_true rfl⟩ rfl (fun x14 s13 => ?_)
    refine G_if_eq (tgt := 136) (pc := 50) dX12_readsReading_50 ?_ ?_
    · refine G_fg (lv2 := [vU, vU, vU, vU]) ⟨Or.inl rfl, Or.inl rfl, Or.inl rfl, Or.inl rfl, trivial⟩ ?_
      exact hk s13
    · refine G_aload_n (x := a0) (pc := 53) dX12_readsReading_53 rfl ?_
      refine G_callVI (as := []) (st := []) (c := 12) (bc2 := 0) (bs2 := 0) (pc := 54) dX12_readsReading_54 z_mX12_here z_vX12_here z_wX12_203 (gX12_here hst fu s13 a0) rfl rfl (by decide) rfl rfl ⟨by decide, by decide, by decide, by decide, Nat.le_of_ble_eq_true rfl⟩ rfl (fun x16 s15 => ?_)
      refine G_callSI (as := [vI x16]) (st := []) (bc2 := 0) (bs2 := 0) (pc := 57) dX12_readsReading_57 z_mX12_isSmall z_sX12_isSmall z_wX12_192 (gX12_isSmall hst fu s15 x16) rfl rfl ⟨by decide, by decide, by decide, by decide, Nat.le_of_ble_eq_true rfl⟩ rfl (fun x18 s17 => ?_)
      refine G_if_eq (tgt := 136) (pc := 60) dX12_readsReading_60 ?_ ?_
      · refine G_fg (lv2 := [vU, vU, vU, vU]) ⟨Or.inl rfl, Or.inl rfl, Or.inl rfl, Or.inl rfl, trivial⟩ ?_
        exact hk s17
      · refine G_aload_n (x := a3) (pc := 63) dX12_readsReading_63 rfl ?_
        refine G_bipush (pc := 64) dX12_readsReading_64 ?_
        refine G_iload_n (x := a2) (pc := 66) dX12_readsReading_66 rfl ?_
        refine G_imul (pc := 67) dX12_readsReading_67 (fun x19 => ?_)
        refine G_iald (pc := 68) dX12_readsReading_68 (fun x20 => ?_)
        refine G_bipush (pc := 69) dX12_readsReading_69 ?_
        refine G_icmp_ne (tgt := 83) (pc := 71) dX12_readsReading_71 ?_ ?_
        · exact gX12_readsReading_J83 hst fu s17 a0 a2 a3 _ _ (fun w => ih w) hk
        · refine G_aload_n (x := a0) (pc := 74) dX12_readsReading_74 rfl ?_
          refine G_iconst (pc := 75) dX12_readsReading_75 ?_
          refine G_aload_n (x := a0) (pc := 76) dX12_readsReading_76 rfl ?_
          refine G_getI (j := 4) (pc := 77) dX12_readsReading_77 rfl z_CLX12 (by decide) z_wX12_176 (by decide) (fun x38 => ?_)
          refine G_callVN (as := [vI 1, vI x38]) (st := []) (c := 12) (bc2 := 0) (bs2 := 0) (pc := 80) dX12_readsReading_80 z_mX12_wrong z_vX12_wrong z_wX12_195 (gX12_wrong hst fu s17 a0 1 x38) rfl rfl (by decide) rfl rfl ⟨by decide, by decide, by decide, by decide, Nat.le_of_ble_eq_true rfl⟩ rfl (fun s39 => ?_)
          exact gX12_readsReading_J83 hst fu s39 a0 a2 a3 _ _ (fun w => ih w) hk
def fX12_readsReading_J136 (fu : Nat) (s : z_M) : z_O := some (vN, s)
theorem gX12_readsReading_J136 {l : Launch} {K : z_K} (hst : l.stackTraces = false) (fu : Nat) (s : z_M) : G l K mX12_readsReading 1 22 0 0 136 [vU, vU, vU, vU] [] s (fX12_readsReading_J136 fu s) := by
  unfold fX12_readsReading_J136
  exact G_vret (pc := 136) dX12_readsReading_136
def fX12_readsReading (fu : Nat) (s : z_M) (a0 : Int) (a1 : Int) (a2 : Int) : z_O := if z_ob a0 12 then z_let (z_gr a0 18) (fun x1 => if z_ix x1 105 13 then z_let (z_gr x1 13) (fun x2 => if z_ix x2 103 a1 then z_let (z_gr x2 a1) (fun x3 => z_let (z_w (10 * a2)) (fun x4 => if z_ix x3 100 x4 then z_let (z_up s x3 x4 0) (fun s5 => if z_ob a0 12 then z_let (s5 a0 4) (fun x6 => z_let (z_w (x6 + 1)) (fun x7 => if z_ob a0 12 then z_let (z_up s5 a0 4 x7) (fun s8 => if z_ob a0 12 then z_bI (fX12_here fu s8 a0) (fun x10 s9 => z_bI (fX12_isSmall fu s9 x10) (fun x12 s11 => if (x12 : Int) ≠ 0 then (fX12_readsReading_L46 fu a0 a2 x3 fu s11 (fun s40 => fX12_readsReading_J136 fu s40)) else (if z_ob a0 12 then z_let (s11 a0 4) (fun x41 => if z_ob a0 12 then z_bN (fX12_wrong fu s11 a0 1 x41) (fun s42 => fX12_readsReading_L46 fu a0 a2 x3 fu s42 (fun s43 => fX12_readsReading_J136 fu s43)) else none) else none))) else none) else none)) else none) else none)) else none) else none) else none
theorem gX12_readsReading {l : Launch} {K : z_K} (hst : l.stackTraces = false) (fu : Nat) (s : z_M) (a0 : Int) (a1 : Int) (a2 : Int) : z_D l K mX12_readsReading 1 22 0 0 [vR a0, vI a1, vI a2] s (fX12_readsReading fu s a0 a1 a2) := by
  refine z_D_of (lv := [vR a0, vI a1, vI a2, vU]) hst z_mX12_readsReading rfl ?_ (Nat.le_of_ble_eq_true rfl) rfl
  unfold fX12_readsReading
  refine G_aload_n (x := a0) (pc := 0) dX12_readsReading_0 rfl ?_
  refine G_getR (j := 18) (pc := 1) dX12_readsReading_1 rfl z_CLX12 (by decide) z_wX12_51 (by decide) (fun x1 => ?_)
  refine G_bipush (pc := 4) dX12_readsReading_4 ?_
  refine G_aald105 (pc := 6) dX12_readsReading_6 (fun x2 => ?_)
  refine G_iload_n (x := a1) (pc := 7) dX12_readsReading_7 rfl ?_
  refine G_aald103 (pc := 8) dX12_readsReading_8 (fun x3 => ?_)
  refine G_astore_n (lv' := [vR a0, vI a1, vI a2, vR x3]) (pc := 9) dX12_readsReading_9 rfl ?_
  refine G_aload_n (x := x3) (pc := 10) dX12_readsReading_10 rfl ?_
  refine G_bipush (pc := 11) dX12_readsReading_11 ?_
  refine G_iload_n (x := a2) (pc := 13) dX12_readsReading_13 rfl ?_
  refine G_imul (pc := 14) dX12_readsReading_14 (fun x4 => ?_)
  refine G_iconst (pc := 15) dX12_readsReading_15 ?_
  refine G_iast (pc := 16) dX12_readsReading_16 (fun s5 => ?_)
  refine G_aload_n (x := a0) (pc := 17) dX12_readsReading_17 rfl ?_
  refine G_dupR (pc := 18) dX12_readsReading_18 ?_
  refine G_getI (j := 4) (pc := 19) dX12_readsReading_19 rfl z_CLX12 (by decide) z_wX12_176 (by decide) (fun x6 => ?_)
  refine G_iconst (pc := 22) dX12_readsReading_22 ?_
  refine G_iadd (pc := 23) dX12_readsReading_23 (fun x7 => ?_)
  refine G_putI (j := 4) (pc := 24) dX12_readsReading_24 rfl z_CLX12 (by decide) z_wX12_176 rfl (by decide) (by decide) (fun s8 => ?_)
  refine G_aload_n (x := a0) (pc := 27) dX12_readsReading_27 rfl ?_
  refine G_callVI (as := []) (st := []) (c := 12) (bc2 := 0) (bs2 := 0) (pc := 28) dX12_readsReading_28 z_mX12_here z_vX12_here z_wX12_203 (gX12_here hst fu s8 a0) rfl rfl (by decide) rfl rfl ⟨by decide, by decide, by decide, by decide, Nat.le_of_ble_eq_true rfl⟩ rfl (fun x10 s9 => ?_)
  refine G_callSI (as := [vI x10]) (st := []) (bc2 := 0) (bs2 := 0) (pc := 31) dX12_readsReading_31 z_mX12_isSmall z_sX12_isSmall z_wX12_192 (gX12_isSmall hst fu s9 x10) rfl rfl ⟨by decide, by decide, by decide, by decide, Nat.le_of_ble_eq_true rfl⟩ rfl (fun x12 s11 => ?_)
  refine G_if_ne (tgt := 46) (pc := 34) dX12_readsReading_34 ?_ ?_
  · refine G_fg (lv2 := [vR a0, vU, vI a2, vR x3]) ⟨Or.inr rfl, Or.inl rfl, Or.inr rfl, Or.inr rfl, trivial⟩ ?_
    refine gX12_readsReading_L46 hst fu a0 a2 x3 _ (fun s40 => ?_) fu s11
    exact gX12_readsReading_J136 hst fu s40
  · refine G_aload_n (x := a0) (pc := 37) dX12_readsReading_37 rfl ?_
    refine G_iconst (pc := 38) dX12_readsReading_38 ?_
    refine G_aload_n (x := a0) (pc := 39) dX12_readsReading_39 rfl ?_
    refine G_getI (j := 4) (pc := 40) dX12_readsReading_40 rfl z_CLX12 (by decide) z_wX12_176 (by decide) (fun x41 => ?_)
    refine G_callVN (as := [vI 1, vI x41]) (st := []) (c := 12) (bc2 := 0) (bs2 := 0) (pc := 43) dX12_readsReading_43 z_mX12_wrong z_vX12_wrong z_wX12_195 (gX12_wrong hst fu s11 a0 1 x41) rfl rfl (by decide) rfl rfl ⟨by decide, by decide, by decide, by decide, Nat.le_of_ble_eq_true rfl⟩ rfl (fun s42 => ?_)
    refine G_fg (lv2 := [vR a0, vU, vI a2, vR x3]) ⟨Or.inr rfl, Or.inl rfl, Or.inr rfl, Or.inr rfl, trivial⟩ ?_
    refine gX12_readsReading_L46 hst fu a0 a2 x3 _ (fun s43 => ?_) fu s42
    exact gX12_readsReading_J136 hst fu s43
def fX12_readsBase_J62 (fu : Nat) (s : z_M) (a0 : Int) (a1 : Int) (a2 : Int) (a3 : Int) (r : z_M → Int → z_O) (k : z_M → z_O) : z_O := if z_ob a0 12 then z_bN (fX12_addsSign fu s a0 7 a2) (fun s14 => z_let (z_w (a3 + 1)) (fun x15 => r s14 x15)) else none
theorem gX12_readsBase_J62 {l : Launch} {K : z_K} (hst : l.stackTraces = false) (fu : Nat) (s : z_M) (a0 : Int) (a1 : Int) (a2 : Int) (a3 : Int) (r : z_M → Int → z_O) (k : z_M → z_O) (hr : ∀ (s : z_M) (a3 : Int), G l K mX12_readsBase 2 45 0 0 31 [vR a0, vI a1, vI a2, vI a3] [] s (r s a3)) (hk : ∀ (s : z_M), G l K mX12_readsBase 2 45 0 0 75 [vR a0, vI a1, vI a2, vU] [] s (k s)) : G l K mX12_readsBase 2 45 0 0 62 [vR a0, vI a1, vI a2, vI a3] [] s (fX12_readsBase_J62 fu s a0 a1 a2 a3 r k) := by
  unfold fX12_readsBase_J62
  refine G_aload_n (x := a0) (pc := 62) dX12_readsBase_62 rfl ?_
  refine G_bipush (pc := 63) dX12_readsBase_63 ?_
  refine G_iload_n (x := a2) (pc := 65) dX12_readsBase_65 rfl ?_
  refine G_callVN (as := [vI 7, vI a2]) (st := []) (c := 12) (bc2 := 0) (bs2 := 0) (pc := 66) dX12_readsBase_66 z_mX12_addsSign z_vX12_addsSign z_wX12_207 (gX12_addsSign hst fu s a0 7 a2) rfl rfl (by decide) rfl rfl ⟨by decide, by decide, by decide, by decide, Nat.le_of_ble_eq_true rfl⟩ rfl (fun s14 => ?_)
  refine G_iinc (x := a3) (g := fun x15 => [vR a0, vI a1, vI a2, vI x15]) (pc := 69) dX12_readsBase_69 rfl (fun _ => rfl) (fun x15 => ?_)
  refine G_goto (tgt := 31) (pc := 72) dX12_readsBase_72 ?_
  exact hr s14 x15
def fX12_readsBase_L31 (fu : Nat) (a0 : Int) (a1 : Int) (a2 : Int) : Nat → z_M → Int → (z_M → z_O) → z_O
  | 0, _, _, _ => none
  | F + 1, s, a3, k => if z_ob a0 12 then z_bI (fX12_fine fu s a0) (fun x9 s8 => if (x9 : Int) = 0 then (k s8) else (if z_ob a0 12 then z_bI (fX12_here fu s8 a0) (fun x11 s10 => z_bI (fX12_isBig fu s10 x11) (fun x13 s12 => if (x13 : Int) = 0 then (k s12) else (if (a3 : Int) ≠ 3 then (fX12_readsBase_J62 fu s12 a0 a1 a2 a3 (fun w v3 => fX12_readsBase_L31 fu a0 a1 a2 F w v3 k) k) else (if z_ob a0 12 then z_let (s12 a0 4) (fun x16 => if z_ob a0 12 then z_bN (fX12_wrong fu s12 a0 1 x16) (fun s17 => fX12_readsBase_J62 fu s17 a0 a1 a2 a3 (fun w v3 => fX12_readsBase_L31 fu a0 a1 a2 F w v3 k) k) else none) else none)))) else none)) else none
theorem gX12_readsBase_L31 {l : Launch} {K : z_K} (hst : l.stackTraces = false) (fu : Nat) (a0 : Int) (a1 : Int) (a2 : Int) (k : z_M → z_O) (hk : ∀ (s : z_M), G l K mX12_readsBase 2 45 0 0 75 [vR a0, vI a1, vI a2, vU] [] s (k s)) : ∀ (F : Nat) (s : z_M) (a3 : Int), G l K mX12_readsBase 2 45 0 0 31 [vR a0, vI a1, vI a2, vI a3] [] s (fX12_readsBase_L31 fu a0 a1 a2 F s a3 k) := by
  intro F
  induction F with
  | zero => exact fun s a3 h => absurd rfl h
  | succ F ih =>
    intro s a3
    rw [fX12_readsBase_L31]
    refine G_aload_n (x := a0) (pc := 31) dX12_readsBase_31 rfl ?_
    refine G_callVI (as := []) (st := []) (c := 12) (bc2 := 0) (bs2 := 0) (pc := 32) dX12_readsBase_32 z_mX12_fine z_vX12_fine z_wX12_199 (gX12_fine hst fu s a0) rfl rfl (by decide) rfl rfl ⟨by decide, by decide, by decide, by decide, Nat.le_of_ble_eq_true rfl⟩ rfl (fun x9 s8 => ?_)
    refine G_if_eq (tgt := 75) (pc := 35) dX12_readsBase_35 ?_ ?_
    · refine G_fg (lv2 := [vR a0, vI a1, vI a2, vU]) ⟨Or.inr rfl, Or.inr rfl, Or.inr rfl, Or.inl rfl, trivial⟩ ?_
      exact hk s8
    · refine G_aload_n (x := a0) (pc := 38) dX12_readsBase_38 rfl ?_
      refine G_callVI (as := []) (st := []) (c := 12) (bc2 := 0) (bs2 := 0) (pc := 39) dX12_readsBase_39 z_mX12_here z_vX12_here z_wX12_203 (gX12_here hst fu s8 a0) rfl rfl (by decide) rfl rfl ⟨by decide, by decide, by decide, by decide, Nat.le_of_ble_eq_true rfl⟩ rfl (fun x11 s10 => ?_)
      refine G_callSI (as := [vI x11]) (st := []) (bc2 := 0) (bs2 := 0) (pc := 42) dX12_readsBase_42 z_mX12_isBig z_sX12_isBig z_wX12_188 (gX12_isBig hst fu s10 x11) rfl rfl ⟨by decide, by decide, by decide, by decide, Nat.le_of_ble_eq_true rfl⟩ rfl (fun x13 s12 => ?_)
      refine G_if_eq (tgt := 75) (pc := 45) dX12_readsBase_45 ?_ ?_
      · refine G_fg (lv2 := [vR a0, vI a1, vI a2, vU]) ⟨Or.inr rfl, Or.inr rfl, Or.inr rfl, Or.inl rfl, trivial⟩ ?_
        exact hk s12
      · refine G_iload_n (x := a3) (pc := 48) dX12_readsBase_48 rfl ?_
        refine G_iconst (pc := 49) dX12_readsBase_49 ?_
        refine G_icmp_ne (tgt := 62) (pc := 50) dX12_readsBase_50 ?_ ?_
        · exact gX12_readsBase_J62 hst fu s12 a0 a1 a2 a3 _ _ (fun w v3 => ih w v3) hk
        · refine G_aload_n (x := a0) (pc := 53) dX12_readsBase_53 rfl ?_
          refine G_iconst (pc := 54) dX12_readsBase_54 ?_
          refine G_aload_n (x := a0) (pc := 55) dX12_readsBase_55 rfl ?_
          refine G_getI (j := 4) (pc := 56) dX12_readsBase_56 rfl z_CLX12 (by decide) z_wX12_176 (by decide) (fun x16 => ?_)
          refine G_callVN (as := [vI 1, vI x16]) (st := []) (c := 12) (bc2 := 0) (bs2 := 0) (pc := 59) dX12_readsBase_59 z_mX12_wrong z_vX12_wrong z_wX12_195 (gX12_wrong hst fu s12 a0 1 x16) rfl rfl (by decide) rfl rfl ⟨by decide, by decide, by decide, by decide, Nat.le_of_ble_eq_true rfl⟩ rfl (fun s17 => ?_)
          exact gX12_readsBase_J62 hst fu s17 a0 a1 a2 a3 _ _ (fun w v3 => ih w v3) hk
def fX12_readsBase_J172 (fu : Nat) (s : z_M) : z_O := some (vN, s)
theorem gX12_readsBase_J172 {l : Launch} {K : z_K} (hst : l.stackTraces = false) (fu : Nat) (s : z_M) : G l K mX12_readsBase 2 45 0 0 172 [vU, vU, vU, vU] [] s (fX12_readsBase_J172 fu s) := by
  unfold fX12_readsBase_J172
  exact G_vret (pc := 172) dX12_readsBase_172
def fX12_readsBase_J100 (fu : Nat) (s : z_M) (a0 : Int) (a1 : Int) (a2 : Int) : z_O := if z_ob a0 12 then z_bI (fX12_fine fu s a0) (fun x22 s21 => if (x22 : Int) ≠ 0 then (if z_ob a0 12 then z_let (z_gr a0 17) (fun x23 => if z_ix x23 103 13 then z_let (z_gr x23 13) (fun x24 => if z_ix x24 100 a2 then z_let (z_up s21 x24 a2 a1) (fun s25 => if z_ob a0 12 then z_let (z_gr a0 18) (fun x26 => if z_ix x26 105 13 then z_let (z_gr x26 13) (fun x27 => if z_ix x27 103 a2 then z_let (z_gr x27 a2) (fun x28 => if z_ix x28 100 10 then z_let (z_up s25 x28 10 0) (fun s29 => if z_ob a0 12 then z_let (z_gr a0 12) (fun x30 => if z_ix x30 103 13 then z_let (z_gr x30 13) (fun x31 => if z_ix x31 100 1 then z_let (s29 x31 1) (fun x32 => z_let (z_w (x32 + 1)) (fun x33 => if z_ix x31 100 1 then z_let (z_up s29 x31 1 x33) (fun s34 => if z_ob a0 12 then z_bN (fX12_readsReading fu s34 a0 a2 0) (fun s35 => if z_ob a0 12 then z_bI (fX12_fine fu s35 a0) (fun x37 s36 => if (x37 : Int) = 0 then (fX12_readsBase_J172 fu s36) else (if z_ob a0 12 then z_bI (fX12_here fu s36 a0) (fun x39 s38 => if (x39 : Int) ≠ 124 then (fX12_readsBase_J172 fu s38) else (if z_ob a0 12 then z_bN (fX12_readsReading fu s38 a0 a2 1) (fun s40 => fX12_readsBase_J172 fu s40) else none)) else none)) else none) else none) else none)) else none) else none) else none) else none) else none) else none) else none) else none) else none) else none) else (some (vN, s21))) else none
theorem gX12_readsBase_J100 {l : Launch} {K : z_K} (hst : l.stackTraces = false) (fu : Nat) (s : z_M) (a0 : Int) (a1 : Int) (a2 : Int) : G l K mX12_readsBase 2 45 0 0 100 [vR a0, vI a1, vI a2, vU] [] s (fX12_readsBase_J100 fu s a0 a1 a2) := by
  unfold fX12_readsBase_J100
  refine G_aload_n (x := a0) (pc := 100) dX12_readsBase_100 rfl ?_
  refine G_callVI (as := []) (st := []) (c := 12) (bc2 := 0) (bs2 := 0) (pc := 101) dX12_readsBase_101 z_mX12_fine z_vX12_fine z_wX12_199 (gX12_fine hst fu s a0) rfl rfl (by decide) rfl rfl ⟨by decide, by decide, by decide, by decide, Nat.le_of_ble_eq_true rfl⟩ rfl (fun x22 s21 => ?_)
  refine G_if_ne (tgt := 108) (pc := 104) dX12_readsBase_104 ?_ ?_
  · refine G_aload_n (x := a0) (pc := 108) dX12_readsBase_108 rfl ?_
    refine G_getR (j := 17) (pc := 109) dX12_readsBase_109 rfl z_CLX12 (by decide) z_wX12_46 (by decide) (fun x23 => ?_)
    refine G_bipush (pc := 112) dX12_readsBase_112 ?_
    refine G_aald103 (pc := 114) dX12_readsBase_114 (fun x24 => ?_)
    refine G_iload_n (x := a2) (pc := 115) dX12_readsBase_115 rfl ?_
    refine G_iload_n (x := a1) (pc := 116) dX12_readsBase_116 rfl ?_
    refine G_iast (pc := 117) dX12_readsBase_117 (fun s25 => ?_)
    refine G_aload_n (x := a0) (pc := 118) dX12_readsBase_118 rfl ?_
    refine G_getR (j := 18) (pc := 119) dX12_readsBase_119 rfl z_CLX12 (by decide) z_wX12_51 (by decide) (fun x26 => ?_)
    refine G_bipush (pc := 122) dX12_readsBase_122 ?_
    refine G_aald105 (pc := 124) dX12_readsBase_124 (fun x27 => ?_)
    refine G_iload_n (x := a2) (pc := 125) dX12_readsBase_125 rfl ?_
    refine G_aald103 (pc := 126) dX12_readsBase_126 (fun x28 => ?_)
    refine G_bipush (pc := 127) dX12_readsBase_127 ?_
    refine G_iconst (pc := 129) dX12_readsBase_129 ?_
    refine G_iast (pc := 130) dX12_readsBase_130 (fun s29 => ?_)
    refine G_aload_n (x := a0) (pc := 131) dX12_readsBase_131 rfl ?_
    refine G_getR (j := 12) (pc := 132) dX12_readsBase_132 rfl z_CLX12 (by decide) z_wX12_31 (by decide) (fun x30 => ?_)
    refine G_bipush (pc := 135) dX12_readsBase_135 ?_
    refine G_aald103 (pc := 137) dX12_readsBase_137 (fun x31 => ?_)
    refine G_iconst (pc := 138) dX12_readsBase_138 ?_
    refine G_dup2 (pc := 139) dX12_readsBase_139 ?_
    refine G_iald (pc := 140) dX12_readsBase_140 (fun x32 => ?_)
    refine G_iconst (pc := 141) dX12_readsBase_141 ?_
    refine G_iadd (pc := 142) dX12_readsBase_142 (fun x33 => ?_)
    refine G_iast (pc := 143) dX12_readsBase_143 (fun s34 => ?_)
    refine G_aload_n (x := a0) (pc := 144) dX12_readsBase_144 rfl ?_
    refine G_iload_n (x := a2) (pc := 145) dX12_readsBase_145 rfl ?_
    refine G_iconst (pc := 146) dX12_readsBase_146 ?_
    refine G_callVN (as := [vI a2, vI 0]) (st := []) (c := 12) (bc2 := 0) (bs2 := 0) (pc := 147) dX12_readsBase_147 z_mX12_readsReading z_vX12_readsReading z_wX12_210 (gX12_readsReading hst fu s34 a0 a2 0) rfl rfl (by decide) rfl rfl ⟨by decide, by decide, by decide, by decide, Nat.le_of_ble_eq_true rfl⟩ rfl (fun s35 => ?_)
    refine G_aload_n (x := a0) (pc := 150) dX12_readsBase_150 rfl ?_
    refine G_callVI (as := []) (st := []) (c := 12) (bc2 := 0) (bs2 := 0) (pc := 151) dX12_readsBase_151 z_mX12_fine z_vX12_fine z_wX12_199 (gX12_fine hst fu s35 a0) rfl rfl (by decide) rfl rfl ⟨by decide, by decide, by decide, by decide, Nat.le_of_ble_eq_true rfl⟩ rfl (fun x37 s36 => ?_)
    refine G_if_eq (tgt := 172) (pc := 154) dX12_readsBase_154 ?_ ?_
    · refine G_fg (lv2 := [vU, vU, vU, vU]) ⟨Or.inl rfl, Or.inl rfl, Or.inl rfl, Or.inl rfl, trivial⟩ ?_
      exact gX12_readsBase_J172 hst fu s36
    · refine G_aload_n (x := a0) (pc := 157) dX12_readsBase_157 rfl ?_
      refine G_callVI (as := []) (st := []) (c := 12) (bc2 := 0) (bs2 := 0) (pc := 158) dX12_readsBase_158 z_mX12_here z_vX12_here z_wX12_203 (gX12_here hst fu s36 a0) rfl rfl (by decide) rfl rfl ⟨by decide, by decide, by decide, by decide, Nat.le_of_ble_eq_true rfl⟩ rfl (fun x39 s38 => ?_)
      refine G_bipush (pc := 161) dX12_readsBase_161 ?_
      refine G_icmp_ne (tgt := 172) (pc := 163) dX12_readsBase_163 ?_ ?_
      · refine G_fg (lv2 := [vU, vU, vU, vU]) ⟨Or.inl rfl, Or.inl rfl, Or.inl rfl, Or.inl rfl, trivial⟩ ?_
        exact gX12_readsBase_J172 hst fu s38
      · refine G_aload_n (x := a0) (pc := 166) dX12_readsBase_166 rfl ?_
        refine G_iload_n (x := a2) (pc := 167) dX12_readsBase_167 rfl ?_
        refine G_iconst (pc := 168) dX12_readsBase_168 ?_
        refine G_callVN (as := [vI a2, vI 1]) (st := []) (c := 12) (bc2 := 0) (bs2 := 0) (pc := 169) dX12_readsBase_169 z_mX12_readsReading z_vX12_readsReading z_wX12_210 (gX12_readsReading hst fu s38 a0 a2 1) rfl rfl (by decide) rfl rfl ⟨by decide, by decide, by decide, by decide, Nat.le_of_ble_eq_true rfl⟩ rfl (fun s40 => ?_)
        refine G_fg (lv2 := [vU, vU, vU, vU]) ⟨Or.inl rfl, Or.inl rfl, Or.inl rfl, Or.inl rfl, trivial⟩ ?_
        exact gX12_readsBase_J172 hst fu s40
  · exact G_vret (pc := 107) dX12_readsBase_107
def fX12_readsBase_J75 (fu : Nat) (s : z_M) (a0 : Int) (a1 : Int) (a2 : Int) : z_O := if z_ob a0 12 then z_bI (fX12_fine fu s a0) (fun x20 s19 => if (x20 : Int) = 0 then (fX12_readsBase_J100 fu s19 a0 a1 a2) else (if z_ob a0 12 then z_bI (fX12_here fu s19 a0) (fun x42 s41 => if (x42 : Int) = 124 then (fX12_readsBase_J100 fu s41 a0 a1 a2) else (if z_ob a0 12 then z_let (s41 a0 4) (fun x43 => if z_ob a0 12 then z_bN (fX12_wrong fu s41 a0 1 x43) (fun s44 => fX12_readsBase_J100 fu s44 a0 a1 a2) else none) else none)) else none)) else none
theorem gX12_readsBase_J75 {l : Launch} {K : z_K} (hst : l.stackTraces = false) (fu : Nat) (s : z_M) (a0 : Int) (a1 : Int) (a2 : Int) : G l K mX12_readsBase 2 45 0 0 75 [vR a0, vI a1, vI a2, vU] [] s (fX12_readsBase_J75 fu s a0 a1 a2) := by
  unfold fX12_readsBase_J75
  refine G_aload_n (x := a0) (pc := 75) dX12_readsBase_75 rfl ?_
  refine G_callVI (as := []) (st := []) (c := 12) (bc2 := 0) (bs2 := 0) (pc := 76) dX12_readsBase_76 z_mX12_fine z_vX12_fine z_wX12_199 (gX12_fine hst fu s a0) rfl rfl (by decide) rfl rfl ⟨by decide, by decide, by decide, by decide, Nat.le_of_ble_eq_true rfl⟩ rfl (fun x20 s19 => ?_)
  refine G_if_eq (tgt := 100) (pc := 79) dX12_readsBase_79 ?_ ?_
  · exact gX12_readsBase_J100 hst fu s19 a0 a1 a2
  · refine G_aload_n (x := a0) (pc := 82) dX12_readsBase_82 rfl ?_
    refine G_callVI (as := []) (st := []) (c := 12) (bc2 := 0) (bs2 := 0) (pc := 83) dX12_readsBase_83 z_mX12_here z_vX12_here z_wX12_203 (gX12_here hst fu s19 a0) rfl rfl (by decide) rfl rfl ⟨by decide, by decide, by decide, by decide, Nat.le_of_ble_eq_true rfl⟩ rfl (fun x42 s41 => ?_)
    refine G_bipush (pc := 86) dX12_readsBase_86 ?_
    refine G_icmp_eq (tgt := 100) (pc := 88) dX12_readsBase_88 ?_ ?_
    · exact gX12_readsBase_J100 hst fu s41 a0 a1 a2
    · refine G_aload_n (x := a0) (pc := 91) dX12_readsBase_91 rfl ?_
      refine G_iconst (pc := 92) dX12_readsBase_92 ?_
      refine G_aload_n (x := a0) (pc := 93) dX12_readsBase_93 rfl ?_
      refine G_getI (j := 4) (pc := 94) dX12_readsBase_94 rfl z_CLX12 (by decide) z_wX12_176 (by decide) (fun x43 => ?_)
      refine G_callVN (as := [vI 1, vI x43]) (st := []) (c := 12) (bc2 := 0) (bs2 := 0) (pc := 97) dX12_readsBase_97 z_mX12_wrong z_vX12_wrong z_wX12_195 (gX12_wrong hst fu s41 a0 1 x43) rfl rfl (by decide) rfl rfl ⟨by decide, by decide, by decide, by decide, Nat.le_of_ble_eq_true rfl⟩ rfl (fun s44 => ?_)
      exact gX12_readsBase_J100 hst fu s44 a0 a1 a2
def fX12_readsBase (fu : Nat) (s : z_M) (a0 : Int) (a1 : Int) : z_O := if z_ob a0 12 then z_let (z_gr a0 12) (fun x1 => if z_ix x1 103 13 then z_let (z_gr x1 13) (fun x2 => if z_ix x2 100 1 then z_let (s x2 1) (fun x3 => if z_ob a0 12 then z_bI (fX12_here fu s a0) (fun x5 s4 => z_bI (fX12_isBig fu s4 x5) (fun x7 s6 => if (x7 : Int) ≠ 0 then (fX12_readsBase_L31 fu a0 a1 x3 fu s6 0 (fun s18 => fX12_readsBase_J75 fu s18 a0 a1 x3)) else (if z_ob a0 12 then z_let (s6 a0 4) (fun x45 => if z_ob a0 12 then z_bN (fX12_wrong fu s6 a0 1 x45) (fun s46 => fX12_readsBase_L31 fu a0 a1 x3 fu s46 0 (fun s47 => fX12_readsBase_J75 fu s47 a0 a1 x3)) else none) else none))) else none) else none) else none) else none
theorem gX12_readsBase {l : Launch} {K : z_K} (hst : l.stackTraces = false) (fu : Nat) (s : z_M) (a0 : Int) (a1 : Int) : z_D l K mX12_readsBase 2 45 0 0 [vR a0, vI a1] s (fX12_readsBase fu s a0 a1) := by
  refine z_D_of (lv := [vR a0, vI a1, vU, vU]) hst z_mX12_readsBase rfl ?_ (Nat.le_of_ble_eq_true rfl) rfl
  unfold fX12_readsBase
  refine G_aload_n (x := a0) (pc := 0) dX12_readsBase_0 rfl ?_
  refine G_getR (j := 12) (pc := 1) dX12_readsBase_1 rfl z_CLX12 (by decide) z_wX12_31 (by decide) (fun x1 => ?_)
  refine G_bipush (pc := 4) dX12_readsBase_4 ?_
  refine G_aald103 (pc := 6) dX12_readsBase_6 (fun x2 => ?_)
  refine G_iconst (pc := 7) dX12_readsBase_7 ?_
  refine G_iald (pc := 8) dX12_readsBase_8 (fun x3 => ?_)
  refine G_istore_n (lv' := [vR a0, vI a1, vI x3, vU]) (pc := 9) dX12_readsBase_9 rfl ?_
  refine G_iconst (pc := 10) dX12_readsBase_10 ?_
  refine G_istore_n (lv' := [vR a0, vI a1, vI x3, vI 0]) (pc := 11) dX12_readsBase_11 rfl ?_
  refine G_aload_n (x := a0) (pc := 12) dX12_readsBase_12 rfl ?_
  refine G_callVI (as := []) (st := []) (c := 12) (bc2 := 0) (bs2 := 0) (pc := 13) dX12_readsBase_13 z_mX12_here z_vX12_here z_wX12_203 (gX12_here hst fu s a0) rfl rfl (by decide) rfl rfl ⟨by decide, by decide, by decide, by decide, Nat.le_of_ble_eq_true rfl⟩ rfl (fun x5 s4 => ?_)
  refine G_callSI (as := [vI x5]) (st := []) (bc2 := 0) (bs2 := 0) (pc := 16) dX12_readsBase_16 z_mX12_isBig z_sX12_isBig z_wX12_188 (gX12_isBig hst fu s4 x5) rfl rfl ⟨by decide, by decide, by decide, by decide, Nat.le_of_ble_eq_true rfl⟩ rfl (fun x7 s6 => ?_)
  refine G_if_ne (tgt := 31) (pc := 19) dX12_readsBase_19 ?_ ?_
  · refine gX12_readsBase_L31 hst fu a0 a1 x3 _ (fun s18 => ?_) fu s6 0
    exact gX12_readsBase_J75 hst fu s18 a0 a1 x3
  · refine G_aload_n (x := a0) (pc := 22) dX12_readsBase_22 rfl ?_
    refine G_iconst (pc := 23) dX12_readsBase_23 ?_
    refine G_aload_n (x := a0) (pc := 24) dX12_readsBase_24 rfl ?_
    refine G_getI (j := 4) (pc := 25) dX12_readsBase_25 rfl z_CLX12 (by decide) z_wX12_176 (by decide) (fun x45 => ?_)
    refine G_callVN (as := [vI 1, vI x45]) (st := []) (c := 12) (bc2 := 0) (bs2 := 0) (pc := 28) dX12_readsBase_28 z_mX12_wrong z_vX12_wrong z_wX12_195 (gX12_wrong hst fu s6 a0 1 x45) rfl rfl (by decide) rfl rfl ⟨by decide, by decide, by decide, by decide, Nat.le_of_ble_eq_true rfl⟩ rfl (fun s46 => ?_)
    refine gX12_readsBase_L31 hst fu a0 a1 x3 _ (fun s47 => ?_) fu s46 0
    exact gX12_readsBase_J75 hst fu s47 a0 a1 x3
