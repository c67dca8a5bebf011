/-! FUNCTIONS, further (by program) -/
def fX5_longWith_L75 (fu : Nat) (a0 : Int) (a3 : Int) : Nat → z_M → Int → Int → (z_M → Int → z_O) → z_O
  | 0, _, _, _, _ => none
  | F + 1, s, a4, a5, k => if z_ob a0 5 then z_let (s a0 5) (fun x18 => if (x18 : Int) < a5 then (k s a4) else (if z_ob a0 5 then z_bI (fX5_spaceOf fu s a0 a5) (fun x20 s19 => z_let (z_w (a4 + x20)) (fun x21 => z_let (z_w (a5 + 1)) (fun x22 => fX5_longWith_L75 fu a0 a3 F s19 x21 x22 k))) else none)) else none
theorem gX5_longWith_L75 {l : Launch} {K : z_K} (hst : l.stackTraces = false) (fu : Nat) (a0 : Int) (a3 : Int) (k : z_M → Int → z_O) (hk : ∀ (s : z_M) (a4 : Int), G l K mX5_longWith 2 53 0 0 101 [vR a0, vU, vU, vI a3, vI a4, vU] [] s (k s a4)) : ∀ (F : Nat) (s : z_M) (a4 : Int) (a5 : Int), G l K mX5_longWith 2 53 0 0 75 [vR a0, vU, vU, vI a3, vI a4, vI a5] [] s (fX5_longWith_L75 fu a0 a3 F s a4 a5 k) := by
  intro F
  induction F with
  | zero => exact fun s a4 a5 h => absurd rfl h
  | succ F ih =>
    intro s a4 a5
    rw [fX5_longWith_L75]
    refine G_iload (x := a5) (pc := 75) dX5_longWith_75 rfl ?_
    refine G_aload_n (x := a0) (pc := 77) dX5_longWith_77 rfl ?_
    refine G_getI (j := 5) (pc := 78) dX5_longWith_78 rfl z_CLX5 (by decide) z_wX5_52 (by decide) (fun x18 => ?_)
    refine G_icmp_gt (tgt := 101) (pc := 81) dX5_longWith_81 ?_ ?_
    · refine G_fg (lv2 := [vR a0, vU, vU, vI a3, vI a4, vU]) ⟨Or.inr rfl, Or.inl rfl, Or.inl rfl, Or.inr rfl, Or.inr rfl, Or.inl rfl, trivial⟩ ?_
      exact hk s a4
    · refine G_iload (x := a4) (pc := 84) dX5_longWith_84 rfl ?_
      refine G_aload_n (x := a0) (pc := 86) dX5_longWith_86 rfl ?_
      refine G_iload (x := a5) (pc := 87) dX5_longWith_87 rfl ?_
      refine G_callVI (as := [vI a5]) (st := [vI a4]) (c := 5) (bc2 := 0) (bs2 := 0) (pc := 89) dX5_longWith_89 z_mX5_spaceOf z_vX5_spaceOf z_wX5_76 (gX5_spaceOf hst fu s a0 a5) rfl rfl (by decide) rfl rfl ⟨by decide, by decide, by decide, by decide, Nat.le_of_ble_eq_true rfl⟩ rfl (fun x20 s19 => ?_)
      refine G_iadd (pc := 92) dX5_longWith_92 (fun x21 => ?_)
      refine G_istore (lv' := [vR a0, vU, vU, vI a3, vI x21, vI a5]) (pc := 93) dX5_longWith_93 rfl ?_
      refine G_iinc (x := a5) (g := fun x22 => [vR a0, vU, vU, vI a3, vI x21, vI x22]) (pc := 95) dX5_longWith_95 rfl (fun _ => rfl) (fun x22 => ?_)
      refine G_goto (tgt := 75) (pc := 98) dX5_longWith_98 ?_
      exact ih s19 x21 x22
def fX5_longWith_J69 (fu : Nat) (s : z_M) (a0 : Int) (a3 : Int) (a4 : Int) : z_O := if z_ob a0 5 then z_let (s a0 4) (fun x17 => fX5_longWith_L75 fu a0 a3 fu s a4 x17 (fun s23 x24 => if z_ob a0 5 then z_let (z_gr a0 2) (fun x25 => if z_ob x25 0 then z_bN (fX0_clear fu s23 x25) (fun s26 => if z_ob a0 5 then z_let (z_gr a0 2) (fun x27 => if z_ob a0 5 then z_let (s26 a0 4) (fun x28 => if z_ob a0 5 then z_let (s26 a0 5) (fun x29 => if z_ob x27 0 then z_bN (fX0_gather fu s26 x27 x28 x29) (fun s30 => if z_ob a0 5 then z_let (z_gr a0 2) (fun x31 => if z_ob a0 5 then z_let (s30 a0 4) (fun x32 => if z_ob a0 5 then z_let (s30 a0 5) (fun x33 => if z_ob x31 0 then z_bI (fX0_hang fu s30 x31 0 x32 x33 a3) (fun x35 s34 => z_let (z_w (x24 + x35)) (fun x36 => some (vI x36, s34))) else none) else none) else none) else none) else none) else none) else none) else none) else none) else none)) else none
theorem gX5_longWith_J69 {l : Launch} {K : z_K} (hst : l.stackTraces = false) (fu : Nat) (s : z_M) (a0 : Int) (a3 : Int) (a4 : Int) : G l K mX5_longWith 2 53 0 0 69 [vR a0, vU, vU, vI a3, vI a4, vU] [] s (fX5_longWith_J69 fu s a0 a3 a4) := by
  unfold fX5_longWith_J69
  refine G_aload_n (x := a0) (pc := 69) dX5_longWith_69 rfl ?_
  refine G_getI (j := 4) (pc := 70) dX5_longWith_70 rfl z_CLX5 (by decide) z_wX5_49 (by decide) (fun x17 => ?_)
  refine G_istore (lv' := [vR a0, vU, vU, vI a3, vI a4, vI x17]) (pc := 73) dX5_longWith_73 rfl ?_
  refine gX5_longWith_L75 hst fu a0 a3 _ (fun s23 x24 => ?_) fu s a4 x17
  refine G_aload_n (x := a0) (pc := 101) dX5_longWith_101 rfl ?_
  refine G_getR (j := 2) (pc := 102) dX5_longWith_102 rfl z_CLX5 (by decide) z_wX5_32 (by decide) (fun x25 => ?_)
  refine G_callVN (as := []) (st := []) (c := 0) (bc2 := 0) (bs2 := 0) (pc := 105) dX5_longWith_105 z_mX0_clear z_vX0_clear z_wX5_79 (gX0_clear hst fu s23 x25) rfl rfl (by decide) rfl rfl ⟨by decide, by decide, by decide, by decide, Nat.le_of_ble_eq_true rfl⟩ rfl (fun s26 => ?_)
  refine G_aload_n (x := a0) (pc := 108) dX5_longWith_108 rfl ?_
  refine G_getR (j := 2) (pc := 109) dX5_longWith_109 rfl z_CLX5 (by decide) z_wX5_32 (by decide) (fun x27 => ?_)
  refine G_aload_n (x := a0) (pc := 112) dX5_longWith_112 rfl ?_
  refine G_getI (j := 4) (pc := 113) dX5_longWith_113 rfl z_CLX5 (by decide) z_wX5_49 (by decide) (fun x28 => ?_)
  refine G_aload_n (x := a0) (pc := 116) dX5_longWith_116 rfl ?_
  refine G_getI (j := 5) (pc := 117) dX5_longWith_117 rfl z_CLX5 (by decide) z_wX5_52 (by decide) (fun x29 => ?_)
  refine G_callVN (as := [vI x28, vI x29]) (st := []) (c := 0) (bc2 := 0) (bs2 := 0) (pc := 120) dX5_longWith_120 z_mX0_gather z_vX0_gather z_wX5_81 (gX0_gather hst fu s26 x27 x28 x29) rfl rfl (by decide) rfl rfl ⟨by decide, by decide, by decide, by decide, Nat.le_of_ble_eq_true rfl⟩ rfl (fun s30 => ?_)
  refine G_iload (x := x24) (pc := 123) dX5_longWith_123 rfl ?_
  refine G_aload_n (x := a0) (pc := 125) dX5_longWith_125 rfl ?_
  refine G_getR (j := 2) (pc := 126) dX5_longWith_126 rfl z_CLX5 (by decide) z_wX5_32 (by decide) (fun x31 => ?_)
  refine G_iconst (pc := 129) dX5_longWith_129 ?_
  refine G_aload_n (x := a0) (pc := 130) dX5_longWith_130 rfl ?_
  refine G_getI (j := 4) (pc := 131) dX5_longWith_131 rfl z_CLX5 (by decide) z_wX5_49 (by decide) (fun x32 => ?_)
  refine G_aload_n (x := a0) (pc := 134) dX5_longWith_134 rfl ?_
  refine G_getI (j := 5) (pc := 135) dX5_longWith_135 rfl z_CLX5 (by decide) z_wX5_52 (by decide) (fun x33 => ?_)
  refine G_iload_n (x := a3) (pc := 138) dX5_longWith_138 rfl ?_
  refine G_callVI (as := [vI 0, vI x32, vI x33, vI a3]) (st := [vI x24]) (c := 0) (bc2 := 0) (bs2 := 0) (pc := 139) dX5_longWith_139 z_mX0_hang z_vX0_hang z_wX5_84 (gX0_hang hst fu s30 x31 0 x32 x33 a3) rfl rfl (by decide) rfl rfl ⟨by decide, by decide, by decide, by decide, Nat.le_of_ble_eq_true rfl⟩ rfl (fun x35 s34 => ?_)
  refine G_iadd (pc := 142) dX5_longWith_142 (fun x36 => ?_)
  exact G_iret (pc := 143) dX5_longWith_143
def fX5_longWith (fu : Nat) (s : z_M) (a0 : Int) (a1 : Int) (a2 : Int) (a3 : Int) : z_O := if z_ob a0 5 then z_bN (fX5_trim fu s a0 a1 a2) (fun s1 => if z_ob a0 5 then z_let (z_gr a0 0) (fun x2 => if z_ob x2 10 then z_let (z_gr x2 11) (fun x3 => if z_ob a0 5 then z_let (s1 a0 5) (fun x4 => z_let (z_w (x4 + 1)) (fun x5 => if z_ob x3 7 then z_bI (fX7_get fu s1 x3 x5) (fun x7 s6 => if z_ob a0 5 then z_let (z_gr a0 0) (fun x8 => if z_ob x8 10 then z_let (z_gr x8 11) (fun x9 => if z_ob a0 5 then z_let (s6 a0 4) (fun x10 => if z_ob x9 7 then z_bI (fX7_get fu s6 x9 x10) (fun x12 s11 => z_let (z_w (x7 - x12)) (fun x13 => if z_ob a0 5 then z_let (s11 a0 5) (fun x14 => if z_ob a0 5 then z_bI (fX5_hangsOut fu s11 a0 x14) (fun x16 s15 => if (x16 : Int) = 0 then (fX5_longWith_J69 fu s15 a0 a3 x13) else (if z_ob a0 5 then z_let (z_gr a0 0) (fun x37 => if z_ob x37 10 then z_let (z_gr x37 5) (fun x38 => if z_ob a0 5 then z_let (s15 a0 5) (fun x39 => if z_ob x38 7 then z_bI (fX7_get fu s15 x38 x39) (fun x41 s40 => z_let (z_w (x13 - x41)) (fun x42 => fX5_longWith_J69 fu s40 a0 a3 x42)) else none) else none) else none) else none)) else none) else none)) else none) else none) else none) else none) else none)) else none) else none) else none) else none
theorem gX5_longWith {l : Launch} {K : z_K} (hst : l.stackTraces = false) (fu : Nat) (s : z_M) (a0 : Int) (a1 : Int) (a2 : Int) (a3 : Int) : z_D l K mX5_longWith 2 53 0 0 [vR a0, vI a1, vI a2, vI a3] s (fX5_longWith fu s a0 a1 a2 a3) := by
  refine z_D_of (lv := [vR a0, vI a1, vI a2, vI a3, vU, vU]) hst z_mX5_longWith rfl ?_ (Nat.le_of_ble_eq_true rfl) rfl
  unfold fX5_longWith
  refine G_aload_n (x := a0) (pc := 0) dX5_longWith_0 rfl ?_
  refine G_iload_n (x := a1) (pc := 1) dX5_longWith_1 rfl ?_
  refine G_iload_n (x := a2) (pc := 2) dX5_longWith_2 rfl ?_
  refine G_callVN (as := [vI a1, vI a2]) (st := []) (c := 5) (bc2 := 0) (bs2 := 0) (pc := 3) dX5_longWith_3 z_mX5_trim z_vX5_trim z_wX5_69 (gX5_trim hst fu s a0 a1 a2) rfl rfl (by decide) rfl rfl ⟨by decide, by decide, by decide, by decide, Nat.le_of_ble_eq_true rfl⟩ rfl (fun s1 => ?_)
  refine G_aload_n (x := a0) (pc := 6) dX5_longWith_6 rfl ?_
  refine G_getR (j := 0) (pc := 7) dX5_longWith_7 rfl z_CLX5 (by decide) z_wX5_20 (by decide) (fun x2 => ?_)
  refine G_getR (j := 11) (pc := 10) dX5_longWith_10 rfl z_CLX10 (by decide) z_wX5_73 (by decide) (fun x3 => ?_)
  refine G_aload_n (x := a0) (pc := 13) dX5_longWith_13 rfl ?_
  refine G_getI (j := 5) (pc := 14) dX5_longWith_14 rfl z_CLX5 (by decide) z_wX5_52 (by decide) (fun x4 => ?_)
  refine G_iconst (pc := 17) dX5_longWith_17 ?_
  refine G_iadd (pc := 18) dX5_longWith_18 (fun x5 => ?_)
  refine G_callVI (as := [vI x5]) (st := []) (c := 7) (bc2 := 0) (bs2 := 0) (pc := 19) dX5_longWith_19 z_mX7_get z_vX7_get z_wX5_58 (gX7_get hst fu s1 x3 x5) rfl rfl (by decide) rfl rfl ⟨by decide, by decide, by decide, by decide, Nat.le_of_ble_eq_true rfl⟩ rfl (fun x7 s6 => ?_)
  refine G_aload_n (x := a0) (pc := 22) dX5_longWith_22 rfl ?_
  refine G_getR (j := 0) (pc := 23) dX5_longWith_23 rfl z_CLX5 (by decide) z_wX5_20 (by decide) (fun x8 => ?_)
  refine G_getR (j := 11) (pc := 26) dX5_longWith_26 rfl z_CLX10 (by decide) z_wX5_73 (by decide) (fun x9 => ?_)
  refine G_aload_n (x := a0) (pc := 29) dX5_longWith_29 rfl ?_
  refine G_getI (j := 4) (pc := 30) dX5_longWith_30 rfl z_CLX5 (by decide) z_wX5_49 (by decide) (fun x10 => ?_)
  refine G_callVI (as := [vI x10]) (st := [vI x7]) (c := 7) (bc2 := 0) (bs2 := 0) (pc := 33) dX5_longWith_33 z_mX7_get z_vX7_get z_wX5_58 (gX7_get hst fu s6 x9 x10) rfl rfl (by decide) rfl rfl ⟨by decide, by decide, by decide, by decide, Nat.le_of_ble_eq_true rfl⟩ rfl (fun x12 s11 => ?_)
  refine G_isub (pc := 36) dX5_longWith_36 (fun x13 => ?_)
  refine G_istore (lv' := [vR a0, vI a1, vI a2, vI a3, vI x13, vU]) (pc := 37) dX5_longWith_37 rfl ?_
  refine G_aload_n (x := a0) (pc := 39) dX5_longWith_39 rfl ?_
  refine G_aload_n (x := a0) (pc := 40) dX5_longWith_40 rfl ?_
  refine G_getI (j := 5) (pc := 41) dX5_longWith_41 rfl z_CLX5 (by decide) z_wX5_52 (by decide) (fun x14 => ?_)
  refine G_callVI (as := [vI x14]) (st := []) (c := 5) (bc2 := 0) (bs2 := 0) (pc := 44) dX5_longWith_44 z_mX5_hangsOut z_vX5_hangsOut z_wX5_62 (gX5_hangsOut hst fu s11 a0 x14) rfl rfl (by decide) rfl rfl ⟨by decide, by decide, by decide, by decide, Nat.le_of_ble_eq_true rfl⟩ rfl (fun x16 s15 => ?_)
  refine G_if_eq (tgt := 69) (pc := 47) dX5_longWith_47 ?_ ?_
  · refine G_fg (lv2 := [vR a0, vU, vU, vI a3, vI x13, vU]) ⟨Or.inr rfl, Or.inl rfl, Or.inl rfl, Or.inr rfl, Or.inr rfl, Or.inl rfl, trivial⟩ ?_
    exact gX5_longWith_J69 hst fu s15 a0 a3 x13
  · refine G_iload (x := x13) (pc := 50) dX5_longWith_50 rfl ?_
    refine G_aload_n (x := a0) (pc := 52) dX5_longWith_52 rfl ?_
    refine G_getR (j := 0) (pc := 53) dX5_longWith_53 rfl z_CLX5 (by decide) z_wX5_20 (by decide) (fun x37 => ?_)
    refine G_getR (j := 5) (pc := 56) dX5_longWith_56 rfl z_CLX10 (by decide) z_wX5_66 (by decide) (fun x38 => ?_)
    refine G_aload_n (x := a0) (pc := 59) dX5_longWith_59 rfl ?_
    refine G_getI (j := 5) (pc := 60) dX5_longWith_60 rfl z_CLX5 (by decide) z_wX5_52 (by decide) (fun x39 => ?_)
    refine G_callVI (as := [vI x39]) (st := [vI x13]) (c := 7) (bc2 := 0) (bs2 := 0) (pc := 63) dX5_longWith_63 z_mX7_get z_vX7_get z_wX5_58 (gX7_get hst fu s15 x38 x39) rfl rfl (by decide) rfl rfl ⟨by decide, by decide, by decide, by decide, Nat.le_of_ble_eq_true rfl⟩ rfl (fun x41 s40 => ?_)
    refine G_isub (pc := 66) dX5_longWith_66 (fun x42 => ?_)
    refine G_istore (lv' := [vR a0, vI a1, vI a2, vI a3, vI x42, vU]) (pc := 67) dX5_longWith_67 rfl ?_
    refine G_fg (lv2 := [vR a0, vU, vU, vI a3, vI x42, vU]) ⟨Or.inr rfl, Or.inl rfl, Or.inl rfl, Or.inr rfl, Or.inr rfl, Or.inl rfl, trivial⟩ ?_
    exact gX5_longWith_J69 hst fu s40 a0 a3 x42
def fX5_lengthOf_J51 (fu : Nat) (s : z_M) (a4 : Int) : z_O := some (vI a4, s)
theorem gX5_lengthOf_J51 {l : Launch} {K : z_K} (hst : l.stackTraces = false) (fu : Nat) (s : z_M) (a4 : Int) : G l K mX5_lengthOf 3 78 0 0 51 [vU, vU, vU, vU, vI a4] [] s (fX5_lengthOf_J51 fu s a4) := by
  unfold fX5_lengthOf_J51
  refine G_iload (x := a4) (pc := 51) dX5_lengthOf_51 rfl ?_
  exact G_iret (pc := 53) dX5_lengthOf_53
def fX5_lengthOf (fu : Nat) (s : z_M) (a0 : Int) (a1 : Int) (a2 : Int) : z_O := z_bI (fX5_slotOf fu s a1 a2) (fun x2 s1 => if z_ob a0 5 then z_let (z_gr a0 3) (fun x3 => if z_ob x3 7 then z_bI (fX7_get fu s1 x3 x2) (fun x5 s4 => z_let (z_w (x5 - 1)) (fun x6 => if (0 : Int) ≤ x6 then (fX5_lengthOf_J51 fu s4 x6) else (if z_ob a0 5 then z_let (z_gr a0 1) (fun x7 => if z_ob x7 7 then z_bI (fX7_get fu s4 x7 2) (fun x9 s8 => if z_ob a0 5 then z_bI (fX5_longWith fu s8 a0 a1 a2 x9) (fun x11 s10 => if z_ob a0 5 then z_let (z_gr a0 3) (fun x12 => z_let (z_w (x11 + 1)) (fun x13 => if z_ob x12 7 then z_bN (fX7_put fu s10 x12 x2 x13) (fun s14 => fX5_lengthOf_J51 fu s14 x11) else none)) else none) else none) else none) else none))) else none) else none)
theorem gX5_lengthOf {l : Launch} {K : z_K} (hst : l.stackTraces = false) (fu : Nat) (s : z_M) (a0 : Int) (a1 : Int) (a2 : Int) : z_D l K mX5_lengthOf 3 78 0 0 [vR a0, vI a1, vI a2] s (fX5_lengthOf fu s a0 a1 a2) := by
  refine z_D_of (lv := [vR a0, vI a1, vI a2, vU, vU]) hst z_mX5_lengthOf rfl ?_ (Nat.le_of_ble_eq_true rfl) rfl
  unfold fX5_lengthOf
  refine G_iload_n (x := a1) (pc := 0) dX5_lengthOf_0 rfl ?_
  refine G_iload_n (x := a2) (pc := 1) dX5_lengthOf_1 rfl ?_
  refine G_callSI (as := [vI a1, vI a2]) (st := []) (bc2 := 0) (bs2 := 0) (pc := 2) dX5_lengthOf_2 z_mX5_slotOf z_sX5_slotOf z_wX5_42 (gX5_slotOf hst fu s a1 a2) rfl rfl ⟨by decide, by decide, by decide, by decide, Nat.le_of_ble_eq_true rfl⟩ rfl (fun x2 s1 => ?_)
  refine G_istore_n (lv' := [vR a0, vI a1, vI a2, vI x2, vU]) (pc := 5) dX5_lengthOf_5 rfl ?_
  refine G_aload_n (x := a0) (pc := 6) dX5_lengthOf_6 rfl ?_
  refine G_getR (j := 3) (pc := 7) dX5_lengthOf_7 rfl z_CLX5 (by decide) z_wX5_14 (by decide) (fun x3 => ?_)
  refine G_iload_n (x := x2) (pc := 10) dX5_lengthOf_10 rfl ?_
  refine G_callVI (as := [vI x2]) (st := []) (c := 7) (bc2 := 0) (bs2 := 0) (pc := 11) dX5_lengthOf_11 z_mX7_get z_vX7_get z_wX5_58 (gX7_get hst fu s1 x3 x2) rfl rfl (by decide) rfl rfl ⟨by decide, by decide, by decide, by decide, Nat.le_of_ble_eq_true rfl⟩ rfl (fun x5 s4 => ?_)
  refine G_iconst (pc := 14) dX5_lengthOf_14 ?_
  refine G_isub (pc := 15) dX5_lengthOf_15 (fun x6 => ?_)
  refine G_istore (lv' := [vR a0, vI a1, vI a2, vI x2, vI x6]) (pc := 16) dX5_lengthOf_16 rfl ?_
  refine G_iload (x := x6) (pc := 18) dX5_lengthOf_18 rfl ?_
  refine G_if_ge (tgt := 51) (pc := 20) dX5_lengthOf_20 ?_ ?_
  · refine G_fg (lv2 := [vU, vU, vU, vU, vI x6]) ⟨Or.inl rfl, Or.inl rfl, Or.inl rfl, Or.inl rfl, Or.inr rfl, trivial⟩ ?_
    exact gX5_lengthOf_J51 hst fu s4 x6
  · refine G_aload_n (x := a0) (pc := 23) dX5_lengthOf_23 rfl ?_
    refine G_iload_n (x := a1) (pc := 24) dX5_lengthOf_24 rfl ?_
    refine G_iload_n (x := a2) (pc := 25) dX5_lengthOf_25 rfl ?_
    refine G_aload_n (x := a0) (pc := 26) dX5_lengthOf_26 rfl ?_
    refine G_getR (j := 1) (pc := 27) dX5_lengthOf_27 rfl z_CLX5 (by decide) z_wX5_24 (by decide) (fun x7 => ?_)
    refine G_iconst (pc := 30) dX5_lengthOf_30 ?_
    refine G_callVI (as := [vI 2]) (st := [vI a2, vI a1, vR a0]) (c := 7) (bc2 := 0) (bs2 := 0) (pc := 31) dX5_lengthOf_31 z_mX7_get z_vX7_get z_wX5_58 (gX7_get hst fu s4 x7 2) rfl rfl (by decide) rfl rfl ⟨by decide, by decide, by decide, by decide, Nat.le_of_ble_eq_true rfl⟩ rfl (fun x9 s8 => ?_)
    refine G_callVI (as := [vI a1, vI a2, vI x9]) (st := []) (c := 5) (bc2 := 0) (bs2 := 0) (pc := 34) dX5_lengthOf_34 z_mX5_longWith z_vX5_longWith z_wX5_88 (gX5_longWith hst fu s8 a0 a1 a2 x9) rfl rfl (by decide) rfl rfl ⟨by decide, by decide, by decide, by decide, Nat.le_of_ble_eq_true rfl⟩ rfl (fun x11 s10 => ?_)
    refine G_istore (lv' := [vR a0, vI a1, vI a2, vI x2, vI x11]) (pc := 37) dX5_lengthOf_37 rfl ?_
    refine G_aload_n (x := a0) (pc := 39) dX5_lengthOf_39 rfl ?_
    refine G_getR (j := 3) (pc := 40) dX5_lengthOf_40 rfl z_CLX5 (by decide) z_wX5_14 (by decide) (fun x12 => ?_)
    refine G_iload_n (x := x2) (pc := 43) dX5_lengthOf_43 rfl ?_
    refine G_iload (x := x11) (pc := 44) dX5_lengthOf_44 rfl ?_
    refine G_iconst (pc := 46) dX5_lengthOf_46 ?_
    refine G_iadd (pc := 47) dX5_lengthOf_47 (fun x13 => ?_)
    refine G_callVN (as := [vI x2, vI x13]) (st := []) (c := 7) (bc2 := 0) (bs2 := 0) (pc := 48) dX5_lengthOf_48 z_mX7_put z_vX7_put z_wX5_92 (gX7_put hst fu s10 x12 x2 x13) rfl rfl (by decide) rfl rfl ⟨by decide, by decide, by decide, by decide, Nat.le_of_ble_eq_true rfl⟩ rfl (fun s14 => ?_)
    refine G_fg (lv2 := [vU, vU, vU, vU, vI x11]) ⟨Or.inl rfl, Or.inl rfl, Or.inl rfl, Or.inl rfl, Or.inr rfl, trivial⟩ ?_
    exact gX5_lengthOf_J51 hst fu s14 x11
def fX1_costFor_J29 (fu : Nat) (s : z_M) (t0 : Int) : z_O := some (vL t0, s)
theorem gX1_costFor_J29 {l : Launch} {K : z_K} (hst : l.stackTraces = false) (fu : Nat) (s : z_M) (t0 : Int) : G l K mX1_costFor 0 0 0 0 29 [vU, vU, vU, vU, vU] [vL t0] s (fX1_costFor_J29 fu s t0) := by
  unfold fX1_costFor_J29
  exact G_lret (pc := 29) dX1_costFor_29
def fX1_costFor (fu : Nat) (s : z_M) (a0 : Int) (a1 : Int) (a2 : Int) : z_O := z_let (z_w (a1 - a0)) (fun x1 => z_let (z_cmp x1 0) (fun x2 => if (0 : Int) ≤ x2 then (if (a2 : Int) = 0 then (z_let (z_wl (x1 * x1)) (fun x3 => fX1_costFor_J29 fu s x3)) else (fX1_costFor_J29 fu s 0)) else (z_let (z_wl (-x1)) (fun x4 => z_let (z_wl (1000000 * x4)) (fun x5 => some (vL x5, s))))))
theorem gX1_costFor {l : Launch} {K : z_K} (hst : l.stackTraces = false) (fu : Nat) (s : z_M) (a0 : Int) (a1 : Int) (a2 : Int) : z_D l K mX1_costFor 0 0 0 0 [vI a0, vI a1, vI a2] s (fX1_costFor fu s a0 a1 a2) := by
  refine z_D_of (lv := [vI a0, vI a1, vI a2, vU, vU]) hst z_mX1_costFor rfl ?_ (Nat.le_of_ble_eq_true rfl) rfl
  unfold fX1_costFor
  refine G_iload_n (x := a1) (pc := 0) dX1_costFor_0 rfl ?_
  refine G_iload_n (x := a0) (pc := 1) dX1_costFor_1 rfl ?_
  refine G_isub (pc := 2) dX1_costFor_2 (fun x1 => ?_)
  refine G_i2l (pc := 3) dX1_costFor_3 ?_
  refine G_lstore_n (lv' := [vI a0, vI a1, vI a2, vL x1, vU]) (pc := 4) dX1_costFor_4 rfl ?_
  refine G_lload_n (x := x1) (pc := 5) dX1_costFor_5 rfl ?_
  refine G_lconst (y := 0) (pc := 6) dX1_costFor_6 ?_
  refine G_lcmp (pc := 7) dX1_costFor_7 (fun x2 => ?_)
  refine G_if_ge (tgt := 18) (pc := 8) dX1_costFor_8 ?_ ?_
  · refine G_iload_n (x := a2) (pc := 18) dX1_costFor_18 rfl ?_
    refine G_if_eq (tgt := 26) (pc := 19) dX1_costFor_19 ?_ ?_
    · refine G_lload_n (x := x1) (pc := 26) dX1_costFor_26 rfl ?_
      refine G_lload_n (x := x1) (pc := 27) dX1_costFor_27 rfl ?_
      refine G_lmul (pc := 28) dX1_costFor_28 (fun x3 => ?_)
      refine G_fg (lv2 := [vU, vU, vU, vU, vU]) ⟨Or.inl rfl, Or.inl rfl, Or.inl rfl, Or.inl rfl, Or.inl rfl, trivial⟩ ?_
      exact gX1_costFor_J29 hst fu s x3
    · refine G_lconst (y := 0) (pc := 22) dX1_costFor_22 ?_
      refine G_goto (tgt := 29) (pc := 23) dX1_costFor_23 ?_
      refine G_fg (lv2 := [vU, vU, vU, vU, vU]) ⟨Or.inl rfl, Or.inl rfl, Or.inl rfl, Or.inl rfl, Or.inl rfl, trivial⟩ ?_
      exact gX1_costFor_J29 hst fu s 0
  · refine G_ldc2 (pc := 11) dX1_costFor_11 z_wX1_88 ?_
    refine G_lload_n (x := x1) (pc := 14) dX1_costFor_14 rfl ?_
    refine G_lneg (pc := 15) dX1_costFor_15 (fun x4 => ?_)
    refine G_lmul (pc := 16) dX1_costFor_16 (fun x5 => ?_)
    exact G_lret (pc := 17) dX1_costFor_17
def fX1_chooseBest_J157 (fu : Nat) (s : z_M) (a0 : Int) (a1 : Int) (a2 : Int) (a3 : Int) (a5 : Int) (r : z_M → Int → Int → z_O) (k : z_M → Int → z_O) : z_O := z_let (z_w (a5 + 1)) (fun x18 => r s a3 x18)
theorem gX1_chooseBest_J157 {l : Launch} {K : z_K} (hst : l.stackTraces = false) (fu : Nat) (s : z_M) (a0 : Int) (a1 : Int) (a2 : Int) (a3 : Int) (a5 : Int) (r : z_M → Int → Int → z_O) (k : z_M → Int → z_O) (hr : ∀ (s : z_M) (a3 : Int) (a5 : Int), G l K mX1_chooseBest 4 102 0 0 36 [vR a0, vI a1, vI a2, vL a3, vU, vI a5, vU, vU] [] s (r s a3 a5)) (hk : ∀ (s : z_M) (a3 : Int), G l K mX1_chooseBest 4 102 0 0 163 [vR a0, vI a1, vI a2, vL a3, vU, vU, vU, vU] [] s (k s a3)) : G l K mX1_chooseBest 4 102 0 0 157 [vR a0, vI a1, vI a2, vL a3, vU, vI a5, vU, vU] [] s (fX1_chooseBest_J157 fu s a0 a1 a2 a3 a5 r k) := by
  unfold fX1_chooseBest_J157
  refine G_iinc (x := a5) (g := fun x18 => [vR a0, vI a1, vI a2, vL a3, vU, vI x18, vU, vU]) (pc := 157) dX1_chooseBest_157 rfl (fun _ => rfl) (fun x18 => ?_)
  refine G_goto (tgt := 36) (pc := 160) dX1_chooseBest_160 ?_
  exact hr s a3 x18
def fX1_chooseBest_J112 (fu : Nat) (s : z_M) (a0 : Int) (a1 : Int) (a2 : Int) (a3 : Int) (a5 : Int) (t0 : Int) (t1 : Int) (t2 : Int) (r : z_M → Int → Int → z_O) (k : z_M → Int → z_O) : z_O := z_bL (fX1_costFor fu s t0 t1 t2) (fun x26 s25 => if z_ob a0 1 then z_let (z_gr a0 3) (fun x27 => z_let (z_w (a5 + 1)) (fun x28 => if z_ob x27 4 then z_bL (fX4_get fu s25 x27 x28) (fun x30 s29 => z_let (z_wl (x26 + x30)) (fun x31 => z_let (z_cmp x31 a3) (fun x32 => if (0 : Int) ≤ x32 then (fX1_chooseBest_J157 fu s29 a0 a1 a2 a3 a5 (fun w v3 v5 => r w v3 v5) k) else (if z_ob a0 1 then z_let (z_gr a0 2) (fun x33 => z_let (z_w (a5 - a2)) (fun x34 => z_let (z_w (x34 + 1)) (fun x35 => if z_ob x33 7 then z_bN (fX7_put fu s29 x33 a2 x35) (fun s36 => fX1_chooseBest_J157 fu s36 a0 a1 a2 x31 a5 (fun w v3 v5 => r w v3 v5) k) else none))) else none)))) else none)) else none)
theorem gX1_chooseBest_J112 {l : Launch} {K : z_K} (hst : l.stackTraces = false) (fu : Nat) (s : z_M) (a0 : Int) (a1 : Int) (a2 : Int) (a3 : Int) (a5 : Int) (t0 : Int) (t1 : Int) (t2 : Int) (r : z_M → Int → Int → z_O) (k : z_M → Int → z_O) (hr : ∀ (s : z_M) (a3 : Int) (a5 : Int), G l K mX1_chooseBest 4 102 0 0 36 [vR a0, vI a1, vI a2, vL a3, vU, vI a5, vU, vU] [] s (r s a3 a5)) (hk : ∀ (s : z_M) (a3 : Int), G l K mX1_chooseBest 4 102 0 0 163 [vR a0, vI a1, vI a2, vL a3, vU, vU, vU, vU] [] s (k s a3)) : G l K mX1_chooseBest 4 102 0 0 112 [vR a0, vI a1, vI a2, vL a3, vU, vI a5, vU, vU] [vI t2, vI t1, vI t0] s (fX1_chooseBest_J112 fu s a0 a1 a2 a3 a5 t0 t1 t2 r k) := by
  unfold fX1_chooseBest_J112
  refine G_callSL (as := [vI t0, vI t1, vI t2]) (st := []) (bc2 := 0) (bs2 := 0) (pc := 112) dX1_chooseBest_112 z_mX1_costFor z_sX1_costFor z_wX1_90 (gX1_costFor hst fu s t0 t1 t2) rfl rfl ⟨by decide, by decide, by decide, by decide, Nat.le_of_ble_eq_true rfl⟩ rfl (fun x26 s25 => ?_)
  refine G_lstore (lv' := [vR a0, vI a1, vI a2, vL a3, vU, vI a5, vL x26, vU]) (pc := 115) dX1_chooseBest_115 rfl ?_
  refine G_lload (x := x26) (pc := 117) dX1_chooseBest_117 rfl ?_
  refine G_aload_n (x := a0) (pc := 119) dX1_chooseBest_119 rfl ?_
  refine G_getR (j := 3) (pc := 120) dX1_chooseBest_120 rfl z_CLX1 (by decide) z_wX1_23 (by decide) (fun x27 => ?_)
  refine G_iload (x := a5) (pc := 123) dX1_chooseBest_123 rfl ?_
  refine G_iconst (pc := 125) dX1_chooseBest_125 ?_
  refine G_iadd (pc := 126) dX1_chooseBest_126 (fun x28 => ?_)
  refine G_callVL (as := [vI x28]) (st := [vL x26]) (c := 4) (bc2 := 0) (bs2 := 0) (pc := 127) dX1_chooseBest_127 z_mX4_get z_vX4_get z_wX1_94 (gX4_get hst fu s25 x27 x28) rfl rfl (by decide) rfl rfl ⟨by decide, by decide, by decide, by decide, Nat.le_of_ble_eq_true rfl⟩ rfl (fun x30 s29 => ?_)
  refine G_ladd (pc := 130) dX1_chooseBest_130 (fun x31 => ?_)
  refine G_lstore (lv' := [vR a0, vI a1, vI a2, vL a3, vU, vI a5, vL x31, vU]) (pc := 131) dX1_chooseBest_131 rfl ?_
  refine G_lload (x := x31) (pc := 133) dX1_chooseBest_133 rfl ?_
  refine G_lload_n (x := a3) (pc := 135) dX1_chooseBest_135 rfl ?_
  refine G_lcmp (pc := 136) dX1_chooseBest_136 (fun x32 => ?_)
  refine G_if_ge (tgt := 157) (pc := 137) dX1_chooseBest_137 ?_ ?_
  · refine G_fg (lv2 := [vR a0, vI a1, vI a2, vL a3, vU, vI a5, vU, vU]) ⟨Or.inr rfl, Or.inr rfl, Or.inr rfl, Or.inr rfl, Or.inl rfl, Or.inr rfl, Or.inl rfl, Or.inl rfl, trivial⟩ ?_
    exact gX1_chooseBest_J157 hst fu s29 a0 a1 a2 a3 a5 _ _ (fun w v3 v5 => hr w v3 v5) hk
  · refine G_lload (x := x31) (pc := 140) dX1_chooseBest_140 rfl ?_
    refine G_lstore_n (lv' := [vR a0, vI a1, vI a2, vL x31, vU, vI a5, vL x31, vU]) (pc := 142) dX1_chooseBest_142 rfl ?_
    refine G_aload_n (x := a0) (pc := 143) dX1_chooseBest_143 rfl ?_
    refine G_getR (j := 2) (pc := 144) dX1_chooseBest_144 rfl z_CLX1 (by decide) z_wX1_14 (by decide) (fun x33 => ?_)
    refine G_iload_n (x := a2) (pc := 147) dX1_chooseBest_147 rfl ?_
    refine G_iload (x := a5) (pc := 148) dX1_chooseBest_148 rfl ?_
    refine G_iload_n (x := a2) (pc := 150) dX1_chooseBest_150 rfl ?_
    refine G_isub (pc := 151) dX1_chooseBest_151 (fun x34 => ?_)
    refine G_iconst (pc := 152) dX1_chooseBest_152 ?_
    refine G_iadd (pc := 153) dX1_chooseBest_153 (fun x35 => ?_)
    refine G_callVN (as := [vI a2, vI x35]) (st := []) (c := 7) (bc2 := 0) (bs2 := 0) (pc := 154) dX1_chooseBest_154 z_mX7_put z_vX7_put z_wX1_51 (gX7_put hst fu s29 x33 a2 x35) rfl rfl (by decide) rfl rfl ⟨by decide, by decide, by decide, by decide, Nat.le_of_ble_eq_true rfl⟩ rfl (fun s36 => ?_)
    refine G_fg (lv2 := [vR a0, vI a1, vI a2, vL x31, vU, vI a5, vU, vU]) ⟨Or.inr rfl, Or.inr rfl, Or.inr rfl, Or.inr rfl, Or.inl rfl, Or.inr rfl, Or.inl rfl, Or.inl rfl, trivial⟩ ?_
    exact gX1_chooseBest_J157 hst fu s36 a0 a1 a2 x31 a5 _ _ (fun w v3 v5 => hr w v3 v5) hk
def fX1_chooseBest_L36 (fu : Nat) (a0 : Int) (a1 : Int) (a2 : Int) : Nat → z_M → Int → Int → (z_M → Int → z_O) → z_O
  | 0, _, _, _, _ => none
  | F + 1, s, a3, a5, k => if z_ob a0 1 then z_let (z_gr a0 0) (fun x8 => if z_ob x8 10 then z_let (s x8 16) (fun x9 => if (x9 : Int) ≤ a5 then (k s a3) else (if z_ob a0 1 then z_let (z_gr a0 0) (fun x10 => if z_ob x10 10 then z_bI (fX10_solid fu s x10 a2 a5) (fun x12 s11 => z_let (z_w (x12 - a1)) (fun x13 => z_let (z_wl (1000000 * x13)) (fun x14 => z_let (z_cmp x14 a3) (fun x15 => if (x15 : Int) < 0 then (if z_ob a0 1 then z_bI (fX1_closesLine fu s11 a0 a5) (fun x17 s16 => if (x17 : Int) = 0 then (fX1_chooseBest_J157 fu s16 a0 a1 a2 a3 a5 (fun w v3 v5 => fX1_chooseBest_L36 fu a0 a1 a2 F w v3 v5 k) k) else (if z_ob a0 1 then z_let (z_gr a0 1) (fun x19 => if z_ob x19 5 then z_bI (fX5_lengthOf fu s16 x19 a2 a5) (fun x21 s20 => if z_ob a0 1 then z_let (z_gr a0 0) (fun x22 => if z_ob x22 10 then z_let (s20 x22 16) (fun x23 => z_let (z_w (x23 - 1)) (fun x24 => if (a5 : Int) ≠ x24 then (fX1_chooseBest_J112 fu s20 a0 a1 a2 a3 a5 x21 a1 0 (fun w v3 v5 => fX1_chooseBest_L36 fu a0 a1 a2 F w v3 v5 k) k) else (fX1_chooseBest_J112 fu s20 a0 a1 a2 a3 a5 x21 a1 1 (fun w v3 v5 => fX1_chooseBest_L36 fu a0 a1 a2 F w v3 v5 k) k))) else none) else none) else none) else none)) else none) else (k s11 a3))))) else none) else none)) else none) else none
theorem gX1_chooseBest_L36 {l : Launch} {K : z_K} (hst : l.stackTraces = false) (fu : Nat) (a0 : Int) (a1 : Int) (a2 : Int) (k : z_M → Int → z_O) (hk : ∀ (s : z_M) (a3 : Int), G l K mX1_chooseBest 4 102 0 0 163 [vR a0, vI a1, vI a2, vL a3, vU, vU, vU, vU] [] s (k s a3)) : ∀ (F : Nat) (s : z_M) (a3 : Int) (a5 : Int), G l K mX1_chooseBest 4 102 0 0 36 [vR a0, vI a1, vI a2, vL a3, vU, vI a5, vU, vU] [] s (fX1_chooseBest_L36 fu a0 a1 a2 F s a3 a5 k) := by
  intro F
  induction F with
  | zero => exact fun s a3 a5 h => absurd rfl h
  | succ F ih =>
    intro s a3 a5
    rw [fX1_chooseBest_L36]
    refine G_iload (x := a5) (pc := 36) dX1_chooseBest_36 rfl ?_
    refine G_aload_n (x := a0) (pc := 38) dX1_chooseBest_38 rfl ?_
    refine G_getR (j := 0) (pc := 39) dX1_chooseBest_39 rfl z_CLX1 (by decide) z_wX1_33 (by decide) (fun x8 => ?_)
    refine G_getI (j := 16) (pc := 42) dX1_chooseBest_42 rfl z_CLX10 (by decide) z_wX1_48 (by decide) (fun x9 => ?_)
    refine G_icmp_ge (tgt := 163) (pc := 45) dX1_chooseBest_45 ?_ ?_
    · refine G_fg (lv2 := [vR a0, vI a1, vI a2, vL a3, vU, vU, vU, vU]) ⟨Or.inr rfl, Or.inr rfl, Or.inr rfl, Or.inr rfl, Or.inl rfl, Or.inl rfl, Or.inl rfl, Or.inl rfl, trivial⟩ ?_
      exact hk s a3
    · refine G_ldc2 (pc := 48) dX1_chooseBest_48 z_wX1_88 ?_
      refine G_aload_n (x := a0) (pc := 51) dX1_chooseBest_51 rfl ?_
      refine G_getR (j := 0) (pc := 52) dX1_chooseBest_52 rfl z_CLX1 (by decide) z_wX1_33 (by decide) (fun x10 => ?_)
      refine G_iload_n (x := a2) (pc := 55) dX1_chooseBest_55 rfl ?_
      refine G_iload (x := a5) (pc := 56) dX1_chooseBest_56 rfl ?_
      refine G_callVI (as := [vI a2, vI a5]) (st := [vL 1000000]) (c := 10) (bc2 := 0) (bs2 := 0) (pc := 58) dX1_chooseBest_58 z_mX10_solid z_vX10_solid z_wX1_68 (gX10_solid hst fu s x10 a2 a5) rfl rfl (by decide) rfl rfl ⟨by decide, by decide, by decide, by decide, Nat.le_of_ble_eq_true rfl⟩ rfl (fun x12 s11 => ?_)
      refine G_iload_n (x := a1) (pc := 61) dX1_chooseBest_61 rfl ?_
      refine G_isub (pc := 62) dX1_chooseBest_62 (fun x13 => ?_)
      refine G_i2l (pc := 63) dX1_chooseBest_63 ?_
      refine G_lmul (pc := 64) dX1_chooseBest_64 (fun x14 => ?_)
      refine G_lload_n (x := a3) (pc := 65) dX1_chooseBest_65 rfl ?_
      refine G_lcmp (pc := 66) dX1_chooseBest_66 (fun x15 => ?_)
      refine G_if_lt (tgt := 73) (pc := 67) dX1_chooseBest_67 ?_ ?_
      · refine G_aload_n (x := a0) (pc := 73) dX1_chooseBest_73 rfl ?_
        refine G_iload (x := a5) (pc := 74) dX1_chooseBest_74 rfl ?_
        refine G_callVI (as := [vI a5]) (st := []) (c := 1) (bc2 := 0) (bs2 := 0) (pc := 76) dX1_chooseBest_76 z_mX1_closesLine z_vX1_closesLine z_wX1_76 (gX1_closesLine hst fu s11 a0 a5) rfl rfl (by decide) rfl rfl ⟨by decide, by decide, by decide, by decide, Nat.le_of_ble_eq_true rfl⟩ rfl (fun x17 s16 => ?_)
        refine G_if_eq (tgt := 157) (pc := 79) dX1_chooseBest_79 ?_ ?_
        · exact gX1_chooseBest_J157 hst fu s16 a0 a1 a2 a3 a5 _ _ (fun w v3 v5 => ih w v3 v5) hk
        · refine G_aload_n (x := a0) (pc := 82) dX1_chooseBest_82 rfl ?_
          refine G_getR (j := 1) (pc := 83) dX1_chooseBest_83 rfl z_CLX1 (by decide) z_wX1_37 (by decide) (fun x19 => ?_)
          refine G_iload_n (x := a2) (pc := 86) dX1_chooseBest_86 rfl ?_
          refine G_iload (x := a5) (pc := 87) dX1_chooseBest_87 rfl ?_
          refine G_callVI (as := [vI a2, vI a5]) (st := []) (c := 5) (bc2 := 0) (bs2 := 0) (pc := 89) dX1_chooseBest_89 z_mX5_lengthOf z_vX5_lengthOf z_wX1_71 (gX5_lengthOf hst fu s16 x19 a2 a5) rfl rfl (by decide) rfl rfl ⟨by decide, by decide, by decide, by decide, Nat.le_of_ble_eq_true rfl⟩ rfl (fun x21 s20 => ?_)
          refine G_iload_n (x := a1) (pc := 92) dX1_chooseBest_92 rfl ?_
          refine G_iload (x := a5) (pc := 93) dX1_chooseBest_93 rfl ?_
          refine G_aload_n (x := a0) (pc := 95) dX1_chooseBest_95 rfl ?_
          refine G_getR (j := 0) (pc := 96) dX1_chooseBest_96 rfl z_CLX1 (by decide) z_wX1_33 (by decide) (fun x22 => ?_)
          refine G_getI (j := 16) (pc := 99) dX1_chooseBest_99 rfl z_CLX10 (by decide) z_wX1_48 (by decide) (fun x23 => ?_)
          refine G_iconst (pc := 102) dX1_chooseBest_102 ?_
          refine G_isub (pc := 103) dX1_chooseBest_103 (fun x24 => ?_)
          refine G_icmp_ne (tgt := 111) (pc := 104) dX1_chooseBest_104 ?_ ?_
          · refine G_iconst (pc := 111) dX1_chooseBest_111 ?_
            exact gX1_chooseBest_J112 hst fu s20 a0 a1 a2 a3 a5 x21 a1 0 _ _ (fun w v3 v5 => ih w v3 v5) hk
          · refine G_iconst (pc := 107) dX1_chooseBest_107 ?_
            refine G_goto (tgt := 112) (pc := 108) dX1_chooseBest_108 ?_
            exact gX1_chooseBest_J112 hst fu s20 a0 a1 a2 a3 a5 x21 a1 1 _ _ (fun w v3 v5 => ih w v3 v5) hk
      · refine G_goto (tgt := 163) (pc := 70) dX1_chooseBest_70 ?_
        refine G_fg (lv2 := [vR a0, vI a1, vI a2, vL a3, vU, vU, vU, vU]) ⟨Or.inr rfl, Or.inr rfl, Or.inr rfl, Or.inr rfl, Or.inl rfl, Or.inl rfl, Or.inl rfl, Or.inl rfl, trivial⟩ ?_
        exact hk s11 a3
def fX1_chooseBest_J163 (fu : Nat) (s : z_M) (a0 : Int) (a1 : Int) (a2 : Int) (a3 : Int) (r : z_M → Int → z_O) (k : z_M → z_O) : z_O := if z_ob a0 1 then z_let (z_gr a0 3) (fun x39 => if z_ob x39 4 then z_bN (fX4_put fu s x39 a2 a3) (fun s40 => z_let (z_w (a2 + (-1))) (fun x41 => r s40 x41)) else none) else none
theorem gX1_chooseBest_J163 {l : Launch} {K : z_K} (hst : l.stackTraces = false) (fu : Nat) (s : z_M) (a0 : Int) (a1 : Int) (a2 : Int) (a3 : Int) (r : z_M → Int → z_O) (k : z_M → z_O) (hr : ∀ (s : z_M) (a2 : Int), G l K mX1_chooseBest 4 102 0 0 25 [vR a0, vI a1, vI a2, vU, vU, vU, vU, vU] [] s (r s a2)) (hk : ∀ (s : z_M), G l K mX1_chooseBest 4 102 0 0 178 [vU, vU, vU, vU, vU, vU, vU, vU] [] s (k s)) : G l K mX1_chooseBest 4 102 0 0 163 [vR a0, vI a1, vI a2, vL a3, vU, vU, vU, vU] [] s (fX1_chooseBest_J163 fu s a0 a1 a2 a3 r k) := by
  unfold fX1_chooseBest_J163
  refine G_aload_n (x := a0) (pc := 163) dX1_chooseBest_163 rfl ?_
  refine G_getR (j := 3) (pc := 164) dX1_chooseBest_164 rfl z_CLX1 (by decide) z_wX1_23 (by decide) (fun x39 => ?_)
  refine G_iload_n (x := a2) (pc := 167) dX1_chooseBest_167 rfl ?_
  refine G_lload_n (x := a3) (pc := 168) dX1_chooseBest_168 rfl ?_
  refine G_callVN (as := [vI a2, vL a3]) (st := []) (c := 4) (bc2 := 0) (bs2 := 0) (pc := 169) dX1_chooseBest_169 z_mX4_put z_vX4_put z_wX1_83 (gX4_put hst fu s x39 a2 a3) rfl rfl (by decide) rfl rfl ⟨by decide, by decide, by decide, by decide, Nat.le_of_ble_eq_true rfl⟩ rfl (fun s40 => ?_)
  refine G_iinc (x := a2) (g := fun x41 => [vR a0, vI a1, vI x41, vL a3, vU, vU, vU, vU]) (pc := 172) dX1_chooseBest_172 rfl (fun _ => rfl) (fun x41 => ?_)
  refine G_goto (tgt := 25) (pc := 175) dX1_chooseBest_175 ?_
  refine G_fg (lv2 := [vR a0, vI a1, vI x41, vU, vU, vU, vU, vU]) ⟨Or.inr rfl, Or.inr rfl, Or.inr rfl, Or.inl rfl, Or.inl rfl, Or.inl rfl, Or.inl rfl, Or.inl rfl, trivial⟩ ?_
  exact hr s40 x41
def fX1_chooseBest_L25 (fu : Nat) (a0 : Int) (a1 : Int) : Nat → z_M → Int → (z_M → z_O) → z_O
  | 0, _, _, _ => none
  | F + 1, s, a2, k => if (a2 : Int) < 0 then (k s) else (fX1_chooseBest_L36 fu a0 a1 a2 fu s 9223372036854775807 a2 (fun s37 x38 => fX1_chooseBest_J163 fu s37 a0 a1 a2 x38 (fun w v2 => fX1_chooseBest_L25 fu a0 a1 F w v2 k) k))
theorem gX1_chooseBest_L25 {l : Launch} {K : z_K} (hst : l.stackTraces = false) (fu : Nat) (a0 : Int) (a1 : Int) (k : z_M → z_O) (hk : ∀ (s : z_M), G l K mX1_chooseBest 4 102 0 0 178 [vU, vU, vU, vU, vU, vU, vU, vU] [] s (k s)) : ∀ (F : Nat) (s : z_M) (a2 : Int), G l K mX1_chooseBest 4 102 0 0 25 [vR a0, vI a1, vI a2, vU, vU, vU, vU, vU] [] s (fX1_chooseBest_L25 fu a0 a1 F s a2 k) := by
  intro F
  induction F with
  | zero => exact fun s a2 h => absurd rfl h
  | succ F ih =>
    intro s a2
    rw [fX1_chooseBest_L25]
    refine G_iload_n (x := a2) (pc := 25) dX1_chooseBest_25 rfl ?_
    refine G_if_lt (tgt := 178) (pc := 26) dX1_chooseBest_26 ?_ ?_
    · refine G_fg (lv2 := [vU, vU, vU, vU, vU, vU, vU, vU]) ⟨Or.inl rfl, Or.inl rfl, Or.inl rfl, Or.inl rfl, Or.inl rfl, Or.inl rfl, Or.inl rfl, Or.inl rfl, trivial⟩ ?_
      exact hk s
    · refine G_ldc2 (pc := 29) dX1_chooseBest_29 z_wX1_86 ?_
      refine G_lstore_n (lv' := [vR a0, vI a1, vI a2, vL 9223372036854775807, vU, vU, vU, vU]) (pc := 32) dX1_chooseBest_32 rfl ?_
      refine G_iload_n (x := a2) (pc := 33) dX1_chooseBest_33 rfl ?_
      refine G_istore (lv' := [vR a0, vI a1, vI a2, vL 9223372036854775807, vU, vI a2, vU, vU]) (pc := 34) dX1_chooseBest_34 rfl ?_
      refine gX1_chooseBest_L36 hst fu a0 a1 a2 _ (fun s37 x38 => ?_) fu s 9223372036854775807 a2
      exact gX1_chooseBest_J163 hst fu s37 a0 a1 a2 x38 _ _ (fun w v2 => ih w v2) hk
def fX1_chooseBest (fu : Nat) (s : z_M) (a0 : Int) (a1 : Int) : z_O := if z_ob a0 1 then z_let (z_gr a0 3) (fun x1 => if z_ob a0 1 then z_let (z_gr a0 0) (fun x2 => if z_ob x2 10 then z_let (s x2 16) (fun x3 => if z_ob x1 4 then z_bN (fX4_put fu s x1 x3 0) (fun s4 => if z_ob a0 1 then z_let (z_gr a0 0) (fun x5 => if z_ob x5 10 then z_let (s4 x5 16) (fun x6 => z_let (z_w (x6 - 1)) (fun x7 => fX1_chooseBest_L25 fu a0 a1 fu s4 x7 (fun s42 => some (vN, s42)))) else none) else none) else none) else none) else none) else none
theorem gX1_chooseBest {l : Launch} {K : z_K} (hst : l.stackTraces = false) (fu : Nat) (s : z_M) (a0 : Int) (a1 : Int) : z_D l K mX1_chooseBest 4 102 0 0 [vR a0, vI a1] s (fX1_chooseBest fu s a0 a1) := by
  refine z_D_of (lv := [vR a0, vI a1, vU, vU, vU, vU, vU, vU]) hst z_mX1_chooseBest rfl ?_ (Nat.le_of_ble_eq_true rfl) rfl
  unfold fX1_chooseBest
  refine G_aload_n (x := a0) (pc := 0) dX1_chooseBest_0 rfl ?_
  refine G_getR (j := 3) (pc := 1) dX1_chooseBest_1 rfl z_CLX1 (by decide) z_wX1_23 (by decide) (fun x1 => ?_)
  refine G_aload_n (x := a0) (pc := 4) dX1_chooseBest_4 rfl ?_
  refine G_getR (j := 0) (pc := 5) dX1_chooseBest_5 rfl z_CLX1 (by decide) z_wX1_33 (by decide) (fun x2 => ?_)
  refine G_getI (j := 16) (pc := 8) dX1_chooseBest_8 rfl z_CLX10 (by decide) z_wX1_48 (by decide) (fun x3 => ?_)
  refine G_lconst (y := 0) (pc := 11) dX1_chooseBest_11 ?_
  refine G_callVN (as := [vI x3, vL 0]) (st := []) (c := 4) (bc2 := 0) (bs2 := 0) (pc := 12) dX1_chooseBest_12 z_mX4_put z_vX4_put z_wX1_83 (gX4_put hst fu s x1 x3 0) rfl rfl (by decide) rfl rfl ⟨by decide, by decide, by decide, by decide, Nat.le_of_ble_eq_true rfl⟩ rfl (fun s4 => ?_)
  refine G_aload_n (x := a0) (pc := 15) dX1_chooseBest_15 rfl ?_
  refine G_getR (j := 0) (pc := 16) dX1_chooseBest_16 rfl z_CLX1 (by decide) z_wX1_33 (by decide) (fun x5 => ?_)
  refine G_getI (j := 16) (pc := 19) dX1_chooseBest_19 rfl z_CLX10 (by decide) z_wX1_48 (by decide) (fun x6 => ?_)
  refine G_iconst (pc := 22) dX1_chooseBest_22 ?_
  refine G_isub (pc := 23) dX1_chooseBest_23 (fun x7 => ?_)
  refine G_istore_n (lv' := [vR a0, vI a1, vI x7, vU, vU, vU, vU, vU]) (pc := 24) dX1_chooseBest_24 rfl ?_
  refine gX1_chooseBest_L25 hst fu a0 a1 _ (fun s42 => ?_) fu s4 x7
  exact G_vret (pc := 178) dX1_chooseBest_178
def fX1_asMany_J72 (fu : Nat) (s : z_M) (a0 : Int) (a1 : Int) (a2 : Int) (a3 : Int) (a4 : Int) (a5 : Int) (r : z_M → Int → Int → Int → z_O) (k : z_M → Int → Int → z_O) : z_O := z_let (z_w (a5 + 1)) (fun x9 => r s a3 a4 x9)
theorem gX1_asMany_J72 {l : Launch} {K : z_K} (hst : l.stackTraces = false) (fu : Nat) (s : z_M) (a0 : Int) (a1 : Int) (a2 : Int) (a3 : Int) (a4 : Int) (a5 : Int) (r : z_M → Int → Int → Int → z_O) (k : z_M → Int → Int → z_O) (hr : ∀ (s : z_M) (a3 : Int) (a4 : Int) (a5 : Int), G l K mX1_asMany 4 102 0 0 8 [vR a0, vI a1, vI a2, vI a3, vI a4, vI a5] [] s (r s a3 a4 a5)) (hk : ∀ (s : z_M) (a3 : Int) (a4 : Int), G l K mX1_asMany 4 102 0 0 78 [vU, vU, vU, vI a3, vI a4, vU] [] s (k s a3 a4)) : G l K mX1_asMany 4 102 0 0 72 [vR a0, vI a1, vI a2, vI a3, vI a4, vI a5] [] s (fX1_asMany_J72 fu s a0 a1 a2 a3 a4 a5 r k) := by
  unfold fX1_asMany_J72
  refine G_iinc (x := a5) (g := fun x9 => [vR a0, vI a1, vI a2, vI a3, vI a4, vI x9]) (pc := 72) dX1_asMany_72 rfl (fun _ => rfl) (fun x9 => ?_)
  refine G_goto (tgt := 8) (pc := 75) dX1_asMany_75 ?_
  exact hr s a3 a4 x9
def fX1_asMany_J70 (fu : Nat) (s : z_M) (a0 : Int) (a1 : Int) (a2 : Int) (a3 : Int) (a5 : Int) (t0 : Int) (r : z_M → Int → Int → Int → z_O) (k : z_M → Int → Int → z_O) : z_O := fX1_asMany_J72 fu s a0 a1 a2 a3 t0 a5 (fun w v3 v4 v5 => r w v3 v4 v5) k
theorem gX1_asMany_J70 {l : Launch} {K : z_K} (hst : l.stackTraces = false) (fu : Nat) (s : z_M) (a0 : Int) (a1 : Int) (a2 : Int) (a3 : Int) (a5 : Int) (t0 : Int) (r : z_M → Int → Int → Int → z_O) (k : z_M → Int → Int → z_O) (hr : ∀ (s : z_M) (a3 : Int) (a4 : Int) (a5 : Int), G l K mX1_asMany 4 102 0 0 8 [vR a0, vI a1, vI a2, vI a3, vI a4, vI a5] [] s (r s a3 a4 a5)) (hk : ∀ (s : z_M) (a3 : Int) (a4 : Int), G l K mX1_asMany 4 102 0 0 78 [vU, vU, vU, vI a3, vI a4, vU] [] s (k s a3 a4)) : G l K mX1_asMany 4 102 0 0 70 [vR a0, vI a1, vI a2, vI a3, vU, vI a5] [vI t0] s (fX1_asMany_J70 fu s a0 a1 a2 a3 a5 t0 r k) := by
  unfold fX1_asMany_J70
  refine G_istore (lv' := [vR a0, vI a1, vI a2, vI a3, vI t0, vI a5]) (pc := 70) dX1_asMany_70 rfl ?_
  exact gX1_asMany_J72 hst fu s a0 a1 a2 a3 t0 a5 _ _ (fun w v3 v4 v5 => hr w v3 v4 v5) hk
def fX1_asMany_L8 (fu : Nat) (a0 : Int) (a1 : Int) (a2 : Int) : Nat → z_M → Int → Int → Int → (z_M → Int → Int → z_O) → z_O
  | 0, _, _, _, _, _ => none
  | F + 1, s, a3, a4, a5, k => if z_ob a0 1 then z_let (z_gr a0 0) (fun x1 => if z_ob x1 10 then z_let (s x1 16) (fun x2 => if (x2 : Int) ≤ a5 then (k s a3 a4) else (if z_ob a0 1 then z_let (z_gr a0 0) (fun x3 => if z_ob x3 10 then z_bI (fX10_solid fu s x3 a1 a5) (fun x5 s4 => if (a2 : Int) < x5 then (k s4 a3 a4) else (if z_ob a0 1 then z_let (z_gr a0 1) (fun x6 => if z_ob x6 5 then z_bI (fX5_lengthOf fu s4 x6 a1 a5) (fun x8 s7 => if (a2 : Int) < x8 then (fX1_asMany_J72 fu s7 a0 a1 a2 a3 a4 a5 (fun w v3 v4 v5 => fX1_asMany_L8 fu a0 a1 a2 F w v3 v4 v5 k) k) else (z_let (z_w (a5 - a1)) (fun x10 => z_let (z_w (x10 + 1)) (fun x11 => if z_ob a0 1 then z_bI (fX1_closesLine fu s7 a0 a5) (fun x13 s12 => if (x13 : Int) = 0 then (fX1_asMany_J70 fu s12 a0 a1 a2 x11 a5 a4 (fun w v3 v4 v5 => fX1_asMany_L8 fu a0 a1 a2 F w v3 v4 v5 k) k) else (fX1_asMany_J70 fu s12 a0 a1 a2 x11 a5 x11 (fun w v3 v4 v5 => fX1_asMany_L8 fu a0 a1 a2 F w v3 v4 v5 k) k)) else none)))) else none) else none)) else none) else none)) else none) else none
theorem gX1_asMany_L8 {l : Launch} {K : z_K} (hst : l.stackTraces = false) (fu : Nat) (a0 : Int) (a1 : Int) (a2 : Int) (k : z_M → Int → Int → z_O) (hk : ∀ (s : z_M) (a3 : Int) (a4 : Int), G l K mX1_asMany 4 102 0 0 78 [vU, vU, vU, vI a3, vI a4, vU] [] s (k s a3 a4)) : ∀ (F : Nat) (s : z_M) (a3 : Int) (a4 : Int) (a5 : Int), G l K mX1_asMany 4 102 0 0 8 [vR a0, vI a1, vI a2, vI a3, vI a4, vI a5] [] s (fX1_asMany_L8 fu a0 a1 a2 F s a3 a4 a5 k) := by
  intro F
  induction F with
  | zero => exact fun s a3 a4 a5 h => absurd rfl h
  | succ F ih =>
    intro s a3 a4 a5
    rw [fX1_asMany_L8]
    refine G_iload (x := a5) (pc := 8) dX1_asMany_8 rfl ?_
    refine G_aload_n (x := a0) (pc := 10) dX1_asMany_10 rfl ?_
    refine G_getR (j := 0) (pc := 11) dX1_asMany_11 rfl z_CLX1 (by decide) z_wX1_33 (by decide) (fun x1 => ?_)
    refine G_getI (j := 16) (pc := 14) dX1_asMany_14 rfl z_CLX10 (by decide) z_wX1_48 (by decide) (fun x2 => ?_)
    refine G_icmp_ge (tgt := 78) (pc := 17) dX1_asMany_17 ?_ ?_
    · refine G_fg (lv2 := [vU, vU, vU, vI a3, vI a4, vU]) ⟨Or.inl rfl, Or.inl rfl, Or.inl rfl, Or.inr rfl, Or.inr rfl, Or.inl rfl, trivial⟩ ?_
      exact hk s a3 a4
    · refine G_aload_n (x := a0) (pc := 20) dX1_asMany_20 rfl ?_
      refine G_getR (j := 0) (pc := 21) dX1_asMany_21 rfl z_CLX1 (by decide) z_wX1_33 (by decide) (fun x3 => ?_)
      refine G_iload_n (x := a1) (pc := 24) dX1_asMany_24 rfl ?_
      refine G_iload (x := a5) (pc := 25) dX1_asMany_25 rfl ?_
      refine G_callVI (as := [vI a1, vI a5]) (st := []) (c := 10) (bc2 := 0) (bs2 := 0) (pc := 27) dX1_asMany_27 z_mX10_solid z_vX10_solid z_wX1_68 (gX10_solid hst fu s x3 a1 a5) rfl rfl (by decide) rfl rfl ⟨by decide, by decide, by decide, by decide, Nat.le_of_ble_eq_true rfl⟩ rfl (fun x5 s4 => ?_)
      refine G_iload_n (x := a2) (pc := 30) dX1_asMany_30 rfl ?_
      refine G_icmp_gt (tgt := 78) (pc := 31) dX1_asMany_31 ?_ ?_
      · refine G_fg (lv2 := [vU, vU, vU, vI a3, vI a4, vU]) ⟨Or.inl rfl, Or.inl rfl, Or.inl rfl, Or.inr rfl, Or.inr rfl, Or.inl rfl, trivial⟩ ?_
        exact hk s4 a3 a4
      · refine G_aload_n (x := a0) (pc := 34) dX1_asMany_34 rfl ?_
        refine G_getR (j := 1) (pc := 35) dX1_asMany_35 rfl z_CLX1 (by decide) z_wX1_37 (by decide) (fun x6 => ?_)
        refine G_iload_n (x := a1) (pc := 38) dX1_asMany_38 rfl ?_
        refine G_iload (x := a5) (pc := 39) dX1_asMany_39 rfl ?_
        refine G_callVI (as := [vI a1, vI a5]) (st := []) (c := 5) (bc2 := 0) (bs2 := 0) (pc := 41) dX1_asMany_41 z_mX5_lengthOf z_vX5_lengthOf z_wX1_71 (gX5_lengthOf hst fu s4 x6 a1 a5) rfl rfl (by decide) rfl rfl ⟨by decide, by decide, by decide, by decide, Nat.le_of_ble_eq_true rfl⟩ rfl (fun x8 s7 => ?_)
        refine G_iload_n (x := a2) (pc := 44) dX1_asMany_44 rfl ?_
        refine G_icmp_gt (tgt := 72) (pc := 45) dX1_asMany_45 ?_ ?_
        · exact gX1_asMany_J72 hst fu s7 a0 a1 a2 a3 a4 a5 _ _ (fun w v3 v4 v5 => ih w v3 v4 v5) hk
        · refine G_iload (x := a5) (pc := 48) dX1_asMany_48 rfl ?_
          refine G_iload_n (x := a1) (pc := 50) dX1_asMany_50 rfl ?_
          refine G_isub (pc := 51) dX1_asMany_51 (fun x10 => ?_)
          refine G_iconst (pc := 52) dX1_asMany_52 ?_
          refine G_iadd (pc := 53) dX1_asMany_53 (fun x11 => ?_)
          refine G_istore_n (lv' := [vR a0, vI a1, vI a2, vI x11, vI a4, vI a5]) (pc := 54) dX1_asMany_54 rfl ?_
          refine G_aload_n (x := a0) (pc := 55) dX1_asMany_55 rfl ?_
          refine G_iload (x := a5) (pc := 56) dX1_asMany_56 rfl ?_
          refine G_callVI (as := [vI a5]) (st := []) (c := 1) (bc2 := 0) (bs2 := 0) (pc := 58) dX1_asMany_58 z_mX1_closesLine z_vX1_closesLine z_wX1_76 (gX1_closesLine hst fu s7 a0 a5) rfl rfl (by decide) rfl rfl ⟨by decide, by decide, by decide, by decide, Nat.le_of_ble_eq_true rfl⟩ rfl (fun x13 s12 => ?_)
          refine G_if_eq (tgt := 68) (pc := 61) dX1_asMany_61 ?_ ?_
          · refine G_iload (x := a4) (pc := 68) dX1_asMany_68 rfl ?_
            refine G_fg (lv2 := [vR a0, vI a1, vI a2, vI x11, vU, vI a5]) ⟨Or.inr rfl, Or.inr rfl, Or.inr rfl, Or.inr rfl, Or.inl rfl, Or.inr rfl, trivial⟩ ?_
            exact gX1_asMany_J70 hst fu s12 a0 a1 a2 x11 a5 a4 _ _ (fun w v3 v4 v5 => ih w v3 v4 v5) hk
          · refine G_iload_n (x := x11) (pc := 64) dX1_asMany_64 rfl ?_
            refine G_goto (tgt := 70) (pc := 65) dX1_asMany_65 ?_
            refine G_fg (lv2 := [vR a0, vI a1, vI a2, vI x11, vU, vI a5]) ⟨Or.inr rfl, Or.inr rfl, Or.inr rfl, Or.inr rfl, Or.inl rfl, Or.inr rfl, trivial⟩ ?_
            exact gX1_asMany_J70 hst fu s12 a0 a1 a2 x11 a5 x11 _ _ (fun w v3 v4 v5 => ih w v3 v4 v5) hk
def fX1_asMany_J89 (fu : Nat) (s : z_M) (t0 : Int) : z_O := some (vI t0, s)
theorem gX1_asMany_J89 {l : Launch} {K : z_K} (hst : l.stackTraces = false) (fu : Nat) (s : z_M) (t0 : Int) : G l K mX1_asMany 4 102 0 0 89 [vU, vU, vU, vU, vU, vU] [vI t0] s (fX1_asMany_J89 fu s t0) := by
  unfold fX1_asMany_J89
  exact G_iret (pc := 89) dX1_asMany_89
def fX1_asMany_J78 (fu : Nat) (s : z_M) (a3 : Int) (a4 : Int) : z_O := if (a4 : Int) ≤ 0 then (fX1_asMany_J89 fu s a3) else (fX1_asMany_J89 fu s a4)
theorem gX1_asMany_J78 {l : Launch} {K : z_K} (hst : l.stackTraces = false) (fu : Nat) (s : z_M) (a3 : Int) (a4 : Int) : G l K mX1_asMany 4 102 0 0 78 [vU, vU, vU, vI a3, vI a4, vU] [] s (fX1_asMany_J78 fu s a3 a4) := by
  unfold fX1_asMany_J78
  refine G_iload (x := a4) (pc := 78) dX1_asMany_78 rfl ?_
  refine G_if_le (tgt := 88) (pc := 80) dX1_asMany_80 ?_ ?_
  · refine G_iload_n (x := a3) (pc := 88) dX1_asMany_88 rfl ?_
    refine G_fg (lv2 := [vU, vU, vU, vU, vU, vU]) ⟨Or.inl rfl, Or.inl rfl, Or.inl rfl, Or.inl rfl, Or.inl rfl, Or.inl rfl, trivial⟩ ?_
    exact gX1_asMany_J89 hst fu s a3
  · refine G_iload (x := a4) (pc := 83) dX1_asMany_83 rfl ?_
    refine G_goto (tgt := 89) (pc := 85) dX1_asMany_85 ?_
    refine G_fg (lv2 := [vU, vU, vU, vU, vU, vU]) ⟨Or.inl rfl, Or.inl rfl, Or.inl rfl, Or.inl rfl, Or.inl rfl, Or.inl rfl, trivial⟩ ?_
    exact gX1_asMany_J89 hst fu s a4
def fX1_asMany (fu : Nat) (s : z_M) (a0 : Int) (a1 : Int) (a2 : Int) : z_O := fX1_asMany_L8 fu a0 a1 a2 fu s 1 0 a1 (fun s14 x15 x16 => fX1_asMany_J78 fu s14 x15 x16)
theorem gX1_asMany {l : Launch} {K : z_K} (hst : l.stackTraces = false) (fu : Nat) (s : z_M) (a0 : Int) (a1 : Int) (a2 : Int) : z_D l K mX1_asMany 4 102 0 0 [vR a0, vI a1, vI a2] s (fX1_asMany fu s a0 a1 a2) := by
  refine z_D_of (lv := [vR a0, vI a1, vI a2, vU, vU, vU]) hst z_mX1_asMany rfl ?_ (Nat.le_of_ble_eq_true rfl) rfl
  unfold fX1_asMany
  refine G_iconst (pc := 0) dX1_asMany_0 ?_
  refine G_istore_n (lv' := [vR a0, vI a1, vI a2, vI 1, vU, vU]) (pc := 1) dX1_asMany_1 rfl ?_
  refine G_iconst (pc := 2) dX1_asMany_2 ?_
  refine G_istore (lv' := [vR a0, vI a1, vI a2, vI 1, vI 0, vU]) (pc := 3) dX1_asMany_3 rfl ?_
  refine G_iload_n (x := a1) (pc := 5) dX1_asMany_5 rfl ?_
  refine G_istore (lv' := [vR a0, vI a1, vI a2, vI 1, vI 0, vI a1]) (pc := 6) dX1_asMany_6 rfl ?_
  refine gX1_asMany_L8 hst fu a0 a1 a2 _ (fun s14 x15 x16 => ?_) fu s 1 0 a1
  exact gX1_asMany_J78 hst fu s14 x15 x16
def fX1_go_J74 (fu : Nat) (s : z_M) (a0 : Int) (a1 : Int) (a2 : Int) (t0 : Int) (t1 : Int) (t2 : Int) (r : z_M → Int → z_O) (k : z_M → z_O) : z_O := z_let (z_max t1 t2) (fun x12 => z_let (z_w (t0 + x12)) (fun x13 => r s x13))
theorem gX1_go_J74 {l : Launch} {K : z_K} (hst : l.stackTraces = false) (fu : Nat) (s : z_M) (a0 : Int) (a1 : Int) (a2 : Int) (t0 : Int) (t1 : Int) (t2 : Int) (r : z_M → Int → z_O) (k : z_M → z_O) (hr : ∀ (s : z_M) (a3 : Int), G l K mX1_go 5 129 0 0 17 [vR a0, vI a1, vI a2, vI a3] [] s (r s a3)) (hk : ∀ (s : z_M), G l K mX1_go 5 129 0 0 82 [vR a0, vU, vU, vU] [] s (k s)) : G l K mX1_go 5 129 0 0 74 [vR a0, vI a1, vI a2, vU] [vI t2, vI t1, vI t0] s (fX1_go_J74 fu s a0 a1 a2 t0 t1 t2 r k) := by
  unfold fX1_go_J74
  refine G_mmax (pc := 74) dX1_go_74 z_wX1_63 (fun x12 => ?_) (Nat.le_of_ble_eq_true rfl)
  refine G_iadd (pc := 77) dX1_go_77 (fun x13 => ?_)
  refine G_istore_n (lv' := [vR a0, vI a1, vI a2, vI x13]) (pc := 78) dX1_go_78 rfl ?_
  refine G_goto (tgt := 17) (pc := 79) dX1_go_79 ?_
  exact hr s x13
def fX1_go_L17 (fu : Nat) (a0 : Int) (a1 : Int) (a2 : Int) : Nat → z_M → Int → (z_M → z_O) → z_O
  | 0, _, _, _ => none
  | F + 1, s, a3, k => if z_ob a0 1 then z_let (z_gr a0 0) (fun x2 => if z_ob x2 10 then z_let (s x2 16) (fun x3 => if (x3 : Int) ≤ a3 then (k s) else (if z_ob a0 1 then z_let (z_gr a0 5) (fun x4 => if z_ob a0 1 then z_let (s a0 6) (fun x5 => if z_ob x4 7 then z_bN (fX7_put fu s x4 x5 a3) (fun s6 => if z_ob a0 1 then z_let (s6 a0 6) (fun x7 => z_let (z_w (x7 + 1)) (fun x8 => if z_ob a0 1 then z_let (z_up s6 a0 6 x8) (fun s9 => if (a2 : Int) ≠ 1 then (if z_ob a0 1 then z_bI (fX1_asMany fu s9 a0 a3 a1) (fun x11 s10 => fX1_go_J74 fu s10 a0 a1 a2 a3 1 x11 (fun w v3 => fX1_go_L17 fu a0 a1 a2 F w v3 k) k) else none) else (if z_ob a0 1 then z_let (z_gr a0 2) (fun x14 => if z_ob x14 7 then z_bI (fX7_get fu s9 x14 a3) (fun x16 s15 => fX1_go_J74 fu s15 a0 a1 a2 a3 1 x16 (fun w v3 => fX1_go_L17 fu a0 a1 a2 F w v3 k) k) else none) else none)) else none)) else none) else none) else none) else none)) else none) else none
theorem gX1_go_L17 {l : Launch} {K : z_K} (hst : l.stackTraces = false) (fu : Nat) (a0 : Int) (a1 : Int) (a2 : Int) (k : z_M → z_O) (hk : ∀ (s : z_M), G l K mX1_go 5 129 0 0 82 [vR a0, vU, vU, vU] [] s (k s)) : ∀ (F : Nat) (s : z_M) (a3 : Int), G l K mX1_go 5 129 0 0 17 [vR a0, vI a1, vI a2, vI a3] [] s (fX1_go_L17 fu a0 a1 a2 F s a3 k) := by
  intro F
  induction F with
  | zero => exact fun s a3 h => absurd rfl h
  | succ F ih =>
    intro s a3
    rw [fX1_go_L17]
    refine G_iload_n (x := a3) (pc := 17) dX1_go_17 rfl ?_
    refine G_aload_n (x := a0) (pc := 18) dX1_go_18 rfl ?_
    refine G_getR (j := 0) (pc := 19) dX1_go_19 rfl z_CLX1 (by decide) z_wX1_33 (by decide) (fun x2 => ?_)
    refine G_getI (j := 16) (pc := 22) dX1_go_22 rfl z_CLX10 (by decide) z_wX1_48 (by decide) (fun x3 => ?_)
    refine G_icmp_ge (tgt := 82) (pc := 25) dX1_go_25 ?_ ?_
    · refine G_fg (lv2 := [vR a0, vU, vU, vU]) ⟨Or.inr rfl, Or.inl rfl, Or.inl rfl, Or.inl rfl, trivial⟩ ?_
      exact hk s
    · refine G_aload_n (x := a0) (pc := 28) dX1_go_28 rfl ?_
      refine G_getR (j := 5) (pc := 29) dX1_go_29 rfl z_CLX1 (by decide) z_wX1_30 (by decide) (fun x4 => ?_)
      refine G_aload_n (x := a0) (pc := 32) dX1_go_32 rfl ?_
      refine G_getI (j := 6) (pc := 33) dX1_go_33 rfl z_CLX1 (by decide) z_wX1_44 (by decide) (fun x5 => ?_)
      refine G_iload_n (x := a3) (pc := 36) dX1_go_36 rfl ?_
      refine G_callVN (as := [vI x5, vI a3]) (st := []) (c := 7) (bc2 := 0) (bs2 := 0) (pc := 37) dX1_go_37 z_mX7_put z_vX7_put z_wX1_51 (gX7_put hst fu s x4 x5 a3) rfl rfl (by decide) rfl rfl ⟨by decide, by decide, by decide, by decide, Nat.le_of_ble_eq_true rfl⟩ rfl (fun s6 => ?_)
      refine G_aload_n (x := a0) (pc := 40) dX1_go_40 rfl ?_
      refine G_dupR (pc := 41) dX1_go_41 ?_
      refine G_getI (j := 6) (pc := 42) dX1_go_42 rfl z_CLX1 (by decide) z_wX1_44 (by decide) (fun x7 => ?_)
      refine G_iconst (pc := 45) dX1_go_45 ?_
      refine G_iadd (pc := 46) dX1_go_46 (fun x8 => ?_)
      refine G_putI (j := 6) (pc := 47) dX1_go_47 rfl z_CLX1 (by decide) z_wX1_44 rfl (by decide) (by decide) (fun s9 => ?_)
      refine G_iload_n (x := a3) (pc := 50) dX1_go_50 rfl ?_
      refine G_iconst (pc := 51) dX1_go_51 ?_
      refine G_iload_n (x := a2) (pc := 52) dX1_go_52 rfl ?_
      refine G_iconst (pc := 53) dX1_go_53 ?_
      refine G_icmp_ne (tgt := 68) (pc := 54) dX1_go_54 ?_ ?_
      · refine G_aload_n (x := a0) (pc := 68) dX1_go_68 rfl ?_
        refine G_iload_n (x := a3) (pc := 69) dX1_go_69 rfl ?_
        refine G_iload_n (x := a1) (pc := 70) dX1_go_70 rfl ?_
        refine G_callVI (as := [vI a3, vI a1]) (st := [vI 1, vI a3]) (c := 1) (bc2 := 0) (bs2 := 0) (pc := 71) dX1_go_71 z_mX1_asMany z_vX1_asMany z_wX1_59 (gX1_asMany hst fu s9 a0 a3 a1) rfl rfl (by decide) rfl rfl ⟨by decide, by decide, by decide, by decide, Nat.le_of_ble_eq_true rfl⟩ rfl (fun x11 s10 => ?_)
        refine G_fg (lv2 := [vR a0, vI a1, vI a2, vU]) ⟨Or.inr rfl, Or.inr rfl, Or.inr rfl, Or.inl rfl, trivial⟩ ?_
        exact gX1_go_J74 hst fu s10 a0 a1 a2 a3 1 x11 _ _ (fun w v3 => ih w v3) hk
      · refine G_aload_n (x := a0) (pc := 57) dX1_go_57 rfl ?_
        refine G_getR (j := 2) (pc := 58) dX1_go_58 rfl z_CLX1 (by decide) z_wX1_14 (by decide) (fun x14 => ?_)
        refine G_iload_n (x := a3) (pc := 61) dX1_go_61 rfl ?_
        refine G_callVI (as := [vI a3]) (st := [vI 1, vI a3]) (c := 7) (bc2 := 0) (bs2 := 0) (pc := 62) dX1_go_62 z_mX7_get z_vX7_get z_wX1_55 (gX7_get hst fu s9 x14 a3) rfl rfl (by decide) rfl rfl ⟨by decide, by decide, by decide, by decide, Nat.le_of_ble_eq_true rfl⟩ rfl (fun x16 s15 => ?_)
        refine G_goto (tgt := 74) (pc := 65) dX1_go_65 ?_
        refine G_fg (lv2 := [vR a0, vI a1, vI a2, vU]) ⟨Or.inr rfl, Or.inr rfl, Or.inr rfl, Or.inl rfl, trivial⟩ ?_
        exact gX1_go_J74 hst fu s15 a0 a1 a2 a3 1 x16 _ _ (fun w v3 => ih w v3) hk
def fX1_go_J10 (fu : Nat) (s : z_M) (a0 : Int) (a1 : Int) (a2 : Int) : z_O := if z_ob a0 1 then z_let (z_up s a0 6 0) (fun s1 => fX1_go_L17 fu a0 a1 a2 fu s1 0 (fun s17 => if z_ob a0 1 then z_let (z_gr a0 5) (fun x18 => if z_ob a0 1 then z_let (s17 a0 6) (fun x19 => if z_ob a0 1 then z_let (z_gr a0 0) (fun x20 => if z_ob x20 10 then z_let (s17 x20 16) (fun x21 => if z_ob x18 7 then z_bN (fX7_put fu s17 x18 x19 x21) (fun s22 => some (vN, s22)) else none) else none) else none) else none) else none)) else none
theorem gX1_go_J10 {l : Launch} {K : z_K} (hst : l.stackTraces = false) (fu : Nat) (s : z_M) (a0 : Int) (a1 : Int) (a2 : Int) : G l K mX1_go 5 129 0 0 10 [vR a0, vI a1, vI a2, vU] [] s (fX1_go_J10 fu s a0 a1 a2) := by
  unfold fX1_go_J10
  refine G_aload_n (x := a0) (pc := 10) dX1_go_10 rfl ?_
  refine G_iconst (pc := 11) dX1_go_11 ?_
  refine G_putI (j := 6) (pc := 12) dX1_go_12 rfl z_CLX1 (by decide) z_wX1_44 rfl (by decide) (by decide) (fun s1 => ?_)
  refine G_iconst (pc := 15) dX1_go_15 ?_
  refine G_istore_n (lv' := [vR a0, vI a1, vI a2, vI 0]) (pc := 16) dX1_go_16 rfl ?_
  refine gX1_go_L17 hst fu a0 a1 a2 _ (fun s17 => ?_) fu s1 0
  refine G_aload_n (x := a0) (pc := 82) dX1_go_82 rfl ?_
  refine G_getR (j := 5) (pc := 83) dX1_go_83 rfl z_CLX1 (by decide) z_wX1_30 (by decide) (fun x18 => ?_)
  refine G_aload_n (x := a0) (pc := 86) dX1_go_86 rfl ?_
  refine G_getI (j := 6) (pc := 87) dX1_go_87 rfl z_CLX1 (by decide) z_wX1_44 (by decide) (fun x19 => ?_)
  refine G_aload_n (x := a0) (pc := 90) dX1_go_90 rfl ?_
  refine G_getR (j := 0) (pc := 91) dX1_go_91 rfl z_CLX1 (by decide) z_wX1_33 (by decide) (fun x20 => ?_)
  refine G_getI (j := 16) (pc := 94) dX1_go_94 rfl z_CLX10 (by decide) z_wX1_48 (by decide) (fun x21 => ?_)
  refine G_callVN (as := [vI x19, vI x21]) (st := []) (c := 7) (bc2 := 0) (bs2 := 0) (pc := 97) dX1_go_97 z_mX7_put z_vX7_put z_wX1_51 (gX7_put hst fu s17 x18 x19 x21) rfl rfl (by decide) rfl rfl ⟨by decide, by decide, by decide, by decide, Nat.le_of_ble_eq_true rfl⟩ rfl (fun s22 => ?_)
  exact G_vret (pc := 100) dX1_go_100
def fX1_go (fu : Nat) (s : z_M) (a0 : Int) (a1 : Int) (a2 : Int) : z_O := if (a2 : Int) ≠ 1 then (fX1_go_J10 fu s a0 a1 a2) else (if z_ob a0 1 then z_bN (fX1_chooseBest fu s a0 a1) (fun s23 => fX1_go_J10 fu s23 a0 a1 a2) else none)
theorem gX1_go {l : Launch} {K : z_K} (hst : l.stackTraces = false) (fu : Nat) (s : z_M) (a0 : Int) (a1 : Int) (a2 : Int) : z_D l K mX1_go 5 129 0 0 [vR a0, vI a1, vI a2] s (fX1_go fu s a0 a1 a2) := by
  refine z_D_of (lv := [vR a0, vI a1, vI a2, vU]) hst z_mX1_go rfl ?_ (Nat.le_of_ble_eq_true rfl) rfl
  unfold fX1_go
  refine G_iload_n (x := a2) (pc := 0) dX1_go_0 rfl ?_
  refine G_iconst (pc := 1) dX1_go_1 ?_
  refine G_icmp_ne (tgt := 10) (pc := 2) dX1_go_2 ?_ ?_
  · exact gX1_go_J10 hst fu s a0 a1 a2
  · refine G_aload_n (x := a0) (pc := 5) dX1_go_5 rfl ?_
    refine G_iload_n (x := a1) (pc := 6) dX1_go_6 rfl ?_
    refine G_callVN (as := [vI a1]) (st := []) (c := 1) (bc2 := 0) (bs2 := 0) (pc := 7) dX1_go_7 z_mX1_chooseBest z_vX1_chooseBest z_wX1_41 (gX1_chooseBest hst fu s a0 a1) rfl rfl (by decide) rfl rfl ⟨by decide, by decide, by decide, by decide, Nat.le_of_ble_eq_true rfl⟩ rfl (fun s23 => ?_)
    exact gX1_go_J10 hst fu s23 a0 a1 a2
def fX3_hasGapBehind_J36 (fu : Nat) (s : z_M) : z_O := if z_bl 0 then some (vI 0, s) else none
theorem gX3_hasGapBehind_J36 {l : Launch} {K : z_K} (hst : l.stackTraces = false) (fu : Nat) (s : z_M) : G l K mX3_hasGapBehind 1 21 0 0 36 [vU, vU] [] s (fX3_hasGapBehind_J36 fu s) := by
  unfold fX3_hasGapBehind_J36
  refine G_iconst (pc := 36) dX3_hasGapBehind_36 ?_
  exact G_zret (pc := 37) dX3_hasGapBehind_37
def fX3_hasGapBehind_J86 (fu : Nat) (s : z_M) (t0 : Int) : z_O := if z_bl t0 then some (vI t0, s) else none
theorem gX3_hasGapBehind_J86 {l : Launch} {K : z_K} (hst : l.stackTraces = false) (fu : Nat) (s : z_M) (t0 : Int) : G l K mX3_hasGapBehind 1 21 0 0 86 [vU, vU] [vI t0] s (fX3_hasGapBehind_J86 fu s t0) := by
  unfold fX3_hasGapBehind_J86
  exact G_zret (pc := 86) dX3_hasGapBehind_86
def fX3_hasGapBehind_J81 (fu : Nat) (s : z_M) : z_O := fX3_hasGapBehind_J86 fu s 1
theorem gX3_hasGapBehind_J81 {l : Launch} {K : z_K} (hst : l.stackTraces = false) (fu : Nat) (s : z_M) : G l K mX3_hasGapBehind 1 21 0 0 81 [vU, vU] [] s (fX3_hasGapBehind_J81 fu s) := by
  unfold fX3_hasGapBehind_J81
  refine G_iconst (pc := 81) dX3_hasGapBehind_81 ?_
  refine G_goto (tgt := 86) (pc := 82) dX3_hasGapBehind_82 ?_
  exact gX3_hasGapBehind_J86 hst fu s 1
def fX3_hasGapBehind (fu : Nat) (s : z_M) (a0 : Int) (a1 : Int) : z_O := if z_ob a0 3 then z_let (z_gr a0 2) (fun x1 => if z_ob x1 5 then z_let (s x1 4) (fun x2 => if (a1 : Int) < x2 then (fX3_hasGapBehind_J36 fu s) else (if z_ob a0 3 then z_let (z_gr a0 2) (fun x3 => if z_ob x3 5 then z_let (s x3 5) (fun x4 => if (x4 : Int) ≤ a1 then (fX3_hasGapBehind_J36 fu s) else (if z_ob a0 3 then z_let (z_gr a0 1) (fun x5 => if z_ob x5 10 then z_let (z_gr x5 10) (fun x6 => if z_ob x6 7 then z_bI (fX7_get fu s x6 a1) (fun x8 s7 => if (x8 : Int) ≠ 0 then (if z_ob a0 3 then z_let (z_gr a0 1) (fun x9 => if z_ob x9 10 then z_let (z_gr x9 2) (fun x10 => if z_ob x10 7 then z_bI (fX7_get fu s7 x10 a1) (fun x12 s11 => if (x12 : Int) ≠ 7 then (fX3_hasGapBehind_J81 fu s11) else (if z_ob a0 3 then z_let (z_gr a0 1) (fun x13 => if z_ob x13 10 then z_let (z_gr x13 6) (fun x14 => if z_ob x14 7 then z_bI (fX7_get fu s11 x14 a1) (fun x16 s15 => if z_ob a0 3 then z_let (z_gr a0 1) (fun x17 => if z_ob x17 10 then z_let (z_gr x17 6) (fun x18 => z_let (z_w (a1 + 1)) (fun x19 => if z_ob x18 7 then z_bI (fX7_get fu s15 x18 x19) (fun x21 s20 => if (x16 : Int) = x21 then (fX3_hasGapBehind_J86 fu s20 0) else (fX3_hasGapBehind_J81 fu s20)) else none)) else none) else none) else none) else none) else none)) else none) else none) else none) else (fX3_hasGapBehind_J36 fu s7)) else none) else none) else none)) else none) else none)) else none) else none
theorem gX3_hasGapBehind {l : Launch} {K : z_K} (hst : l.stackTraces = false) (fu : Nat) (s : z_M) (a0 : Int) (a1 : Int) : z_D l K mX3_hasGapBehind 1 21 0 0 [vR a0, vI a1] s (fX3_hasGapBehind fu s a0 a1) := by
  refine z_D_of (lv := [vR a0, vI a1]) hst z_mX3_hasGapBehind rfl ?_ (Nat.le_of_ble_eq_true rfl) rfl
  unfold fX3_hasGapBehind
  refine G_iload_n (x := a1) (pc := 0) dX3_hasGapBehind_0 rfl ?_
  refine G_aload_n (x := a0) (pc := 1) dX3_hasGapBehind_1 rfl ?_
  refine G_getR (j := 2) (pc := 2) dX3_hasGapBehind_2 rfl z_CLX3 (by decide) z_wX3_55 (by decide) (fun x1 => ?_)
  refine G_getI (j := 4) (pc := 5) dX3_hasGapBehind_5 rfl z_CLX5 (by decide) z_wX3_118 (by decide) (fun x2 => ?_)
  refine G_icmp_lt (tgt := 36) (pc := 8) dX3_hasGapBehind_8 ?_ ?_
  · refine G_fg (lv2 := [vU, vU]) ⟨Or.inl rfl, Or.inl rfl, trivial⟩ ?_
    exact gX3_hasGapBehind_J36 hst fu s
  · refine G_iload_n (x := a1) (pc := 11) dX3_hasGapBehind_11 rfl ?_
    refine G_aload_n (x := a0) (pc := 12) dX3_hasGapBehind_12 rfl ?_
    refine G_getR (j := 2) (pc := 13) dX3_hasGapBehind_13 rfl z_CLX3 (by decide) z_wX3_55 (by decide) (fun x3 => ?_)
    refine G_getI (j := 5) (pc := 16) dX3_hasGapBehind_16 rfl z_CLX5 (by decide) z_wX3_111 (by decide) (fun x4 => ?_)
    refine G_icmp_ge (tgt := 36) (pc := 19) dX3_hasGapBehind_19 ?_ ?_
    · refine G_fg (lv2 := [vU, vU]) ⟨Or.inl rfl, Or.inl rfl, trivial⟩ ?_
      exact gX3_hasGapBehind_J36 hst fu s
    · refine G_aload_n (x := a0) (pc := 22) dX3_hasGapBehind_22 rfl ?_
      refine G_getR (j := 1) (pc := 23) dX3_hasGapBehind_23 rfl z_CLX3 (by decide) z_wX3_51 (by decide) (fun x5 => ?_)
      refine G_getR (j := 10) (pc := 26) dX3_hasGapBehind_26 rfl z_CLX10 (by decide) z_wX3_131 (by decide) (fun x6 => ?_)
      refine G_iload_n (x := a1) (pc := 29) dX3_hasGapBehind_29 rfl ?_
      refine G_callVI (as := [vI a1]) (st := []) (c := 7) (bc2 := 0) (bs2 := 0) (pc := 30) dX3_hasGapBehind_30 z_mX7_get z_vX7_get z_wX3_98 (gX7_get hst fu s x6 a1) rfl rfl (by decide) rfl rfl ⟨by decide, by decide, by decide, by decide, Nat.le_of_ble_eq_true rfl⟩ rfl (fun x8 s7 => ?_)
      refine G_if_ne (tgt := 38) (pc := 33) dX3_hasGapBehind_33 ?_ ?_
      · refine G_aload_n (x := a0) (pc := 38) dX3_hasGapBehind_38 rfl ?_
        refine G_getR (j := 1) (pc := 39) dX3_hasGapBehind_39 rfl z_CLX3 (by decide) z_wX3_51 (by decide) (fun x9 => ?_)
        refine G_getR (j := 2) (pc := 42) dX3_hasGapBehind_42 rfl z_CLX10 (by decide) z_wX3_136 (by decide) (fun x10 => ?_)
        refine G_iload_n (x := a1) (pc := 45) dX3_hasGapBehind_45 rfl ?_
        refine G_callVI (as := [vI a1]) (st := []) (c := 7) (bc2 := 0) (bs2 := 0) (pc := 46) dX3_hasGapBehind_46 z_mX7_get z_vX7_get z_wX3_98 (gX7_get hst fu s7 x10 a1) rfl rfl (by decide) rfl rfl ⟨by decide, by decide, by decide, by decide, Nat.le_of_ble_eq_true rfl⟩ rfl (fun x12 s11 => ?_)
        refine G_bipush (pc := 49) dX3_hasGapBehind_49 ?_
        refine G_icmp_ne (tgt := 81) (pc := 51) dX3_hasGapBehind_51 ?_ ?_
        · refine G_fg (lv2 := [vU, vU]) ⟨Or.inl rfl, Or.inl rfl, trivial⟩ ?_
          exact gX3_hasGapBehind_J81 hst fu s11
        · refine G_aload_n (x := a0) (pc := 54) dX3_hasGapBehind_54 rfl ?_
          refine G_getR (j := 1) (pc := 55) dX3_hasGapBehind_55 rfl z_CLX3 (by decide) z_wX3_51 (by decide) (fun x13 => ?_)
          refine G_getR (j := 6) (pc := 58) dX3_hasGapBehind_58 rfl z_CLX10 (by decide) z_wX3_139 (by decide) (fun x14 => ?_)
          refine G_iload_n (x := a1) (pc := 61) dX3_hasGapBehind_61 rfl ?_
          refine G_callVI (as := [vI a1]) (st := []) (c := 7) (bc2 := 0) (bs2 := 0) (pc := 62) dX3_hasGapBehind_62 z_mX7_get z_vX7_get z_wX3_98 (gX7_get hst fu s11 x14 a1) rfl rfl (by decide) rfl rfl ⟨by decide, by decide, by decide, by decide, Nat.le_of_ble_eq_true rfl⟩ rfl (fun x16 s15 => ?_)
          refine G_aload_n (x := a0) (pc := 65) dX3_hasGapBehind_65 rfl ?_
          refine G_getR (j := 1) (pc := 66) dX3_hasGapBehind_66 rfl z_CLX3 (by decide) z_wX3_51 (by decide) (fun x17 => ?_)
          refine G_getR (j := 6) (pc := 69) dX3_hasGapBehind_69 rfl z_CLX10 (by decide) z_wX3_139 (by decide) (fun x18 => ?_)
          refine G_iload_n (x := a1) (pc := 72) dX3_hasGapBehind_72 rfl ?_
          refine G_iconst (pc := 73) dX3_hasGapBehind_73 ?_
          refine G_iadd (pc := 74) dX3_hasGapBehind_74 (fun x19 => ?_)
          refine G_callVI (as := [vI x19]) (st := [vI x16]) (c := 7) (bc2 := 0) (bs2 := 0) (pc := 75) dX3_hasGapBehind_75 z_mX7_get z_vX7_get z_wX3_98 (gX7_get hst fu s15 x18 x19) rfl rfl (by decide) rfl rfl ⟨by decide, by decide, by decide, by decide, Nat.le_of_ble_eq_true rfl⟩ rfl (fun x21 s20 => ?_)
          refine G_icmp_eq (tgt := 85) (pc := 78) dX3_hasGapBehind_78 ?_ ?_
          · refine G_iconst (pc := 85) dX3_hasGapBehind_85 ?_
            refine G_fg (lv2 := [vU, vU]) ⟨Or.inl rfl, Or.inl rfl, trivial⟩ ?_
            exact gX3_hasGapBehind_J86 hst fu s20 0
          · refine G_fg (lv2 := [vU, vU]) ⟨Or.inl rfl, Or.inl rfl, trivial⟩ ?_
            exact gX3_hasGapBehind_J81 hst fu s20
      · refine G_fg (lv2 := [vU, vU]) ⟨Or.inl rfl, Or.inl rfl, trivial⟩ ?_
        exact gX3_hasGapBehind_J36 hst fu s7
def fX3_measureLine_J193 (fu : Nat) (s : z_M) (a0 : Int) (a1 : Int) (a3 : Int) (a5 : Int) (t0 : Int) (t1 : Int) (r : z_M → Int → Int → z_O) (k : z_M → Int → z_O) : z_O := z_let (z_w (t0 + t1)) (fun x52 => z_let (z_w (a5 + 1)) (fun x53 => r s x52 x53))
theorem gX3_measureLine_J193 {l : Launch} {K : z_K} (hst : l.stackTraces = false) (fu : Nat) (s : z_M) (a0 : Int) (a1 : Int) (a3 : Int) (a5 : Int) (t0 : Int) (t1 : Int) (r : z_M → Int → Int → z_O) (k : z_M → Int → z_O) (hr : ∀ (s : z_M) (a4 : Int) (a5 : Int), G l K mX3_measureLine 4 102 0 0 171 [vR a0, vI a1, vU, vI a3, vI a4, vI a5] [] s (r s a4 a5)) (hk : ∀ (s : z_M) (a4 : Int), G l K mX3_measureLine 4 102 0 0 202 [vR a0, vI a1, vU, vU, vI a4, vU] [] s (k s a4)) : G l K mX3_measureLine 4 102 0 0 193 [vR a0, vI a1, vU, vI a3, vU, vI a5] [vI t1, vI t0] s (fX3_measureLine_J193 fu s a0 a1 a3 a5 t0 t1 r k) := by
  unfold fX3_measureLine_J193
  refine G_iadd (pc := 193) dX3_measureLine_193 (fun x52 => ?_)
  refine G_istore (lv' := [vR a0, vI a1, vU, vI a3, vI x52, vI a5]) (pc := 194) dX3_measureLine_194 rfl ?_
  refine G_iinc (x := a5) (g := fun x53 => [vR a0, vI a1, vU, vI a3, vI x52, vI x53]) (pc := 196) dX3_measureLine_196 rfl (fun _ => rfl) (fun x53 => ?_)
  refine G_goto (tgt := 171) (pc := 199) dX3_measureLine_199 ?_
  exact hr s x52 x53
def fX3_measureLine_L171 (fu : Nat) (a0 : Int) (a1 : Int) (a3 : Int) : Nat → z_M → Int → Int → (z_M → Int → z_O) → z_O
  | 0, _, _, _, _ => none
  | F + 1, s, a4, a5, k => if (a3 : Int) < a5 then (k s a4) else (if z_ob a0 3 then z_bI (fX3_hasGapBehind fu s a0 a5) (fun x51 s50 => if (x51 : Int) = 0 then (fX3_measureLine_J193 fu s50 a0 a1 a3 a5 a4 0 (fun w v4 v5 => fX3_measureLine_L171 fu a0 a1 a3 F w v4 v5 k) k) else (fX3_measureLine_J193 fu s50 a0 a1 a3 a5 a4 1 (fun w v4 v5 => fX3_measureLine_L171 fu a0 a1 a3 F w v4 v5 k) k)) else none)
theorem gX3_measureLine_L171 {l : Launch} {K : z_K} (hst : l.stackTraces = false) (fu : Nat) (a0 : Int) (a1 : Int) (a3 : Int) (k : z_M → Int → z_O) (hk : ∀ (s : z_M) (a4 : Int), G l K mX3_measureLine 4 102 0 0 202 [vR a0, vI a1, vU, vU, vI a4, vU] [] s (k s a4)) : ∀ (F : Nat) (s : z_M) (a4 : Int) (a5 : Int), G l K mX3_measureLine 4 102 0 0 171 [vR a0, vI a1, vU, vI a3, vI a4, vI a5] [] s (fX3_measureLine_L171 fu a0 a1 a3 F s a4 a5 k) := by
  intro F
  induction F with
  | zero => exact fun s a4 a5 h => absurd rfl h
  | succ F ih =>
    intro s a4 a5
    rw [fX3_measureLine_L171]
    refine G_iload (x := a5) (pc := 171) dX3_measureLine_171 rfl ?_
    refine G_iload_n (x := a3) (pc := 173) dX3_measureLine_173 rfl ?_
    refine G_icmp_gt (tgt := 202) (pc := 174) dX3_measureLine_174 ?_ ?_
    · refine G_fg (lv2 := [vR a0, vI a1, vU, vU, vI a4, vU]) ⟨Or.inr rfl, Or.inr rfl, Or.inl rfl, Or.inl rfl, Or.inr rfl, Or.inl rfl, trivial⟩ ?_
      exact hk s a4
    · refine G_iload (x := a4) (pc := 177) dX3_measureLine_177 rfl ?_
      refine G_aload_n (x := a0) (pc := 179) dX3_measureLine_179 rfl ?_
      refine G_iload (x := a5) (pc := 180) dX3_measureLine_180 rfl ?_
      refine G_callVI (as := [vI a5]) (st := [vI a4]) (c := 3) (bc2 := 0) (bs2 := 0) (pc := 182) dX3_measureLine_182 z_mX3_hasGapBehind z_vX3_hasGapBehind z_wX3_128 (gX3_hasGapBehind hst fu s a0 a5) rfl rfl (by decide) rfl rfl ⟨by decide, by decide, by decide, by decide, Nat.le_of_ble_eq_true rfl⟩ rfl (fun x51 s50 => ?_)
      refine G_if_eq (tgt := 192) (pc := 185) dX3_measureLine_185 ?_ ?_
      · refine G_iconst (pc := 192) dX3_measureLine_192 ?_
        refine G_fg (lv2 := [vR a0, vI a1, vU, vI a3, vU, vI a5]) ⟨Or.inr rfl, Or.inr rfl, Or.inl rfl, Or.inr rfl, Or.inl rfl, Or.inr rfl, trivial⟩ ?_
        exact gX3_measureLine_J193 hst fu s50 a0 a1 a3 a5 a4 0 _ _ (fun w v4 v5 => ih w v4 v5) hk
      · refine G_iconst (pc := 188) dX3_measureLine_188 ?_
        refine G_goto (tgt := 193) (pc := 189) dX3_measureLine_189 ?_
        refine G_fg (lv2 := [vR a0, vI a1, vU, vI a3, vU, vI a5]) ⟨Or.inr rfl, Or.inr rfl, Or.inl rfl, Or.inr rfl, Or.inl rfl, Or.inr rfl, trivial⟩ ?_
        exact gX3_measureLine_J193 hst fu s50 a0 a1 a3 a5 a4 1 _ _ (fun w v4 v5 => ih w v4 v5) hk
def fX3_measureLine_J81 (fu : Nat) (s : z_M) (a0 : Int) (a1 : Int) (a2 : Int) (a3 : Int) (t0 : Int) (t1 : Int) (t2 : Int) : z_O := if z_ob t0 7 then z_bN (fX7_put fu s t0 t1 t2) (fun s24 => if z_ob a0 3 then z_let (z_gr a0 15) (fun x25 => if z_ob a0 3 then z_let (z_gr a0 5) (fun x26 => if z_ob x26 0 then z_let (s24 x26 9) (fun x27 => if z_ob x25 7 then z_bN (fX7_put fu s24 x25 a1 x27) (fun s28 => if z_ob a0 3 then z_let (z_gr a0 5) (fun x29 => if z_ob a0 3 then z_let (z_gr a0 2) (fun x30 => if z_ob x30 5 then z_let (s28 x30 4) (fun x31 => if z_ob a0 3 then z_let (z_gr a0 2) (fun x32 => if z_ob x32 5 then z_let (s28 x32 5) (fun x33 => if z_ob x29 0 then z_bN (fX0_gather fu s28 x29 x31 x33) (fun s34 => if z_ob a0 3 then z_let (z_gr a0 13) (fun x35 => if z_ob a0 3 then z_let (z_gr a0 5) (fun x36 => if z_ob a0 3 then z_let (z_gr a0 15) (fun x37 => if z_ob x37 7 then z_bI (fX7_get fu s34 x37 a1) (fun x39 s38 => if z_ob a0 3 then z_let (z_gr a0 2) (fun x40 => if z_ob x40 5 then z_let (s38 x40 4) (fun x41 => if z_ob a0 3 then z_let (z_gr a0 2) (fun x42 => if z_ob x42 5 then z_let (s38 x42 5) (fun x43 => if z_ob a0 3 then z_let (z_gr a0 4) (fun x44 => if z_ob x44 7 then z_bI (fX7_get fu s38 x44 2) (fun x46 s45 => if z_ob x36 0 then z_bI (fX0_hang fu s45 x36 x39 x41 x43 x46) (fun x48 s47 => if z_ob x35 7 then z_bN (fX7_put fu s47 x35 a1 x48) (fun s49 => fX3_measureLine_L171 fu a0 a1 a3 fu s49 0 a2 (fun s54 x55 => if z_ob a0 3 then z_let (z_gr a0 12) (fun x56 => if z_ob x56 7 then z_bN (fX7_put fu s54 x56 a1 x55) (fun s57 => some (vN, s57)) else none) else none)) else none) else none) else none) else none) else none) else none) else none) else none) else none) else none) else none) else none) else none) else none) else none) else none) else none) else none) else none) else none) else none) else none) else none
theorem gX3_measureLine_J81 {l : Launch} {K : z_K} (hst : l.stackTraces = false) (fu : Nat) (s : z_M) (a0 : Int) (a1 : Int) (a2 : Int) (a3 : Int) (t0 : Int) (t1 : Int) (t2 : Int) : G l K mX3_measureLine 4 102 0 0 81 [vR a0, vI a1, vI a2, vI a3, vU, vU] [vI t2, vI t1, vR t0] s (fX3_measureLine_J81 fu s a0 a1 a2 a3 t0 t1 t2) := by
  unfold fX3_measureLine_J81
  refine G_callVN (as := [vI t1, vI t2]) (st := []) (c := 7) (bc2 := 0) (bs2 := 0) (pc := 81) dX3_measureLine_81 z_mX7_put z_vX7_put z_wX3_91 (gX7_put hst fu s t0 t1 t2) rfl rfl (by decide) rfl rfl ⟨by decide, by decide, by decide, by decide, Nat.le_of_ble_eq_true rfl⟩ rfl (fun s24 => ?_)
  refine G_aload_n (x := a0) (pc := 84) dX3_measureLine_84 rfl ?_
  refine G_getR (j := 15) (pc := 85) dX3_measureLine_85 rfl z_CLX3 (by decide) z_wX3_44 (by decide) (fun x25 => ?_)
  refine G_iload_n (x := a1) (pc := 88) dX3_measureLine_88 rfl ?_
  refine G_aload_n (x := a0) (pc := 89) dX3_measureLine_89 rfl ?_
  refine G_getR (j := 5) (pc := 90) dX3_measureLine_90 rfl z_CLX3 (by decide) z_wX3_71 (by decide) (fun x26 => ?_)
  refine G_getI (j := 9) (pc := 93) dX3_measureLine_93 rfl z_CLX0 (by decide) z_wX3_90 (by decide) (fun x27 => ?_)
  refine G_callVN (as := [vI a1, vI x27]) (st := []) (c := 7) (bc2 := 0) (bs2 := 0) (pc := 96) dX3_measureLine_96 z_mX7_put z_vX7_put z_wX3_91 (gX7_put hst fu s24 x25 a1 x27) rfl rfl (by decide) rfl rfl ⟨by decide, by decide, by decide, by decide, Nat.le_of_ble_eq_true rfl⟩ rfl (fun s28 => ?_)
  refine G_aload_n (x := a0) (pc := 99) dX3_measureLine_99 rfl ?_
  refine G_getR (j := 5) (pc := 100) dX3_measureLine_100 rfl z_CLX3 (by decide) z_wX3_71 (by decide) (fun x29 => ?_)
  refine G_aload_n (x := a0) (pc := 103) dX3_measureLine_103 rfl ?_
  refine G_getR (j := 2) (pc := 104) dX3_measureLine_104 rfl z_CLX3 (by decide) z_wX3_55 (by decide) (fun x30 => ?_)
  refine G_getI (j := 4) (pc := 107) dX3_measureLine_107 rfl z_CLX5 (by decide) z_wX3_118 (by decide) (fun x31 => ?_)
  refine G_aload_n (x := a0) (pc := 110) dX3_measureLine_110 rfl ?_
  refine G_getR (j := 2) (pc := 111) dX3_measureLine_111 rfl z_CLX3 (by decide) z_wX3_55 (by decide) (fun x32 => ?_)
  refine G_getI (j := 5) (pc := 114) dX3_measureLine_114 rfl z_CLX5 (by decide) z_wX3_111 (by decide) (fun x33 => ?_)
  refine G_callVN (as := [vI x31, vI x33]) (st := []) (c := 0) (bc2 := 0) (bs2 := 0) (pc := 117) dX3_measureLine_117 z_mX0_gather z_vX0_gather z_wX3_121 (gX0_gather hst fu s28 x29 x31 x33) rfl rfl (by decide) rfl rfl ⟨by decide, by decide, by decide, by decide, Nat.le_of_ble_eq_true rfl⟩ rfl (fun s34 => ?_)
  refine G_aload_n (x := a0) (pc := 120) dX3_measureLine_120 rfl ?_
  refine G_getR (j := 13) (pc := 121) dX3_measureLine_121 rfl z_CLX3 (by decide) z_wX3_38 (by decide) (fun x35 => ?_)
  refine G_iload_n (x := a1) (pc := 124) dX3_measureLine_124 rfl ?_
  refine G_aload_n (x := a0) (pc := 125) dX3_measureLine_125 rfl ?_
  refine G_getR (j := 5) (pc := 126) dX3_measureLine_126 rfl z_CLX3 (by decide) z_wX3_71 (by decide) (fun x36 => ?_)
  refine G_aload_n (x := a0) (pc := 129) dX3_measureLine_129 rfl ?_
  refine G_getR (j := 15) (pc := 130) dX3_measureLine_130 rfl z_CLX3 (by decide) z_wX3_44 (by decide) (fun x37 => ?_)
  refine G_iload_n (x := a1) (pc := 133) dX3_measureLine_133 rfl ?_
  refine G_callVI (as := [vI a1]) (st := [vR x36, vI a1, vR x35]) (c := 7) (bc2 := 0) (bs2 := 0) (pc := 134) dX3_measureLine_134 z_mX7_get z_vX7_get z_wX3_98 (gX7_get hst fu s34 x37 a1) rfl rfl (by decide) rfl rfl ⟨by decide, by decide, by decide, by decide, Nat.le_of_ble_eq_true rfl⟩ rfl (fun x39 s38 => ?_)
  refine G_aload_n (x := a0) (pc := 137) dX3_measureLine_137 rfl ?_
  refine G_getR (j := 2) (pc := 138) dX3_measureLine_138 rfl z_CLX3 (by decide) z_wX3_55 (by decide) (fun x40 => ?_)
  refine G_getI (j := 4) (pc := 141) dX3_measureLine_141 rfl z_CLX5 (by decide) z_wX3_118 (by decide) (fun x41 => ?_)
  refine G_aload_n (x := a0) (pc := 144) dX3_measureLine_144 rfl ?_
  refine G_getR (j := 2) (pc := 145) dX3_measureLine_145 rfl z_CLX3 (by decide) z_wX3_55 (by decide) (fun x42 => ?_)
  refine G_getI (j := 5) (pc := 148) dX3_measureLine_148 rfl z_CLX5 (by decide) z_wX3_111 (by decide) (fun x43 => ?_)
  refine G_aload_n (x := a0) (pc := 151) dX3_measureLine_151 rfl ?_
  refine G_getR (j := 4) (pc := 152) dX3_measureLine_152 rfl z_CLX3 (by decide) z_wX3_63 (by decide) (fun x44 => ?_)
  refine G_iconst (pc := 155) dX3_measureLine_155 ?_
  refine G_callVI (as := [vI 2]) (st := [vI x43, vI x41, vI x39, vR x36, vI a1, vR x35]) (c := 7) (bc2 := 0) (bs2 := 0) (pc := 156) dX3_measureLine_156 z_mX7_get z_vX7_get z_wX3_98 (gX7_get hst fu s38 x44 2) rfl rfl (by decide) rfl rfl ⟨by decide, by decide, by decide, by decide, Nat.le_of_ble_eq_true rfl⟩ rfl (fun x46 s45 => ?_)
  refine G_callVI (as := [vI x39, vI x41, vI x43, vI x46]) (st := [vI a1, vR x35]) (c := 0) (bc2 := 0) (bs2 := 0) (pc := 159) dX3_measureLine_159 z_mX0_hang z_vX0_hang z_wX3_124 (gX0_hang hst fu s45 x36 x39 x41 x43 x46) rfl rfl (by decide) rfl rfl ⟨by decide, by decide, by decide, by decide, Nat.le_of_ble_eq_true rfl⟩ rfl (fun x48 s47 => ?_)
  refine G_callVN (as := [vI a1, vI x48]) (st := []) (c := 7) (bc2 := 0) (bs2 := 0) (pc := 162) dX3_measureLine_162 z_mX7_put z_vX7_put z_wX3_91 (gX7_put hst fu s47 x35 a1 x48) rfl rfl (by decide) rfl rfl ⟨by decide, by decide, by decide, by decide, Nat.le_of_ble_eq_true rfl⟩ rfl (fun s49 => ?_)
  refine G_iconst (pc := 165) dX3_measureLine_165 ?_
  refine G_istore (lv' := [vR a0, vI a1, vI a2, vI a3, vI 0, vU]) (pc := 166) dX3_measureLine_166 rfl ?_
  refine G_iload_n (x := a2) (pc := 168) dX3_measureLine_168 rfl ?_
  refine G_istore (lv' := [vR a0, vI a1, vI a2, vI a3, vI 0, vI a2]) (pc := 169) dX3_measureLine_169 rfl ?_
  refine G_fg (lv2 := [vR a0, vI a1, vU, vI a3, vI 0, vI a2]) ⟨Or.inr rfl, Or.inr rfl, Or.inl rfl, Or.inr rfl, Or.inr rfl, Or.inr rfl, trivial⟩ ?_
  refine gX3_measureLine_L171 hst fu a0 a1 a3 _ (fun s54 x55 => ?_) fu s49 0 a2
  refine G_aload_n (x := a0) (pc := 202) dX3_measureLine_202 rfl ?_
  refine G_getR (j := 12) (pc := 203) dX3_measureLine_203 rfl z_CLX3 (by decide) z_wX3_35 (by decide) (fun x56 => ?_)
  refine G_iload_n (x := a1) (pc := 206) dX3_measureLine_206 rfl ?_
  refine G_iload (x := x55) (pc := 207) dX3_measureLine_207 rfl ?_
  refine G_callVN (as := [vI a1, vI x55]) (st := []) (c := 7) (bc2 := 0) (bs2 := 0) (pc := 209) dX3_measureLine_209 z_mX7_put z_vX7_put z_wX3_91 (gX7_put hst fu s54 x56 a1 x55) rfl rfl (by decide) rfl rfl ⟨by decide, by decide, by decide, by decide, Nat.le_of_ble_eq_true rfl⟩ rfl (fun s57 => ?_)
  exact G_vret (pc := 212) dX3_measureLine_212
def fX3_measureLine (fu : Nat) (s : z_M) (a0 : Int) (a1 : Int) : z_O := if z_ob a0 3 then z_let (z_gr a0 3) (fun x1 => if z_ob x1 1 then z_let (z_gr x1 5) (fun x2 => if z_ob x2 7 then z_bI (fX7_get fu s x2 a1) (fun x4 s3 => if z_ob a0 3 then z_let (z_gr a0 3) (fun x5 => if z_ob x5 1 then z_let (z_gr x5 5) (fun x6 => z_let (z_w (a1 + 1)) (fun x7 => if z_ob x6 7 then z_bI (fX7_get fu s3 x6 x7) (fun x9 s8 => z_let (z_w (x9 - 1)) (fun x10 => if z_ob a0 3 then z_let (z_gr a0 11) (fun x11 => if z_ob a0 3 then z_let (z_gr a0 2) (fun x12 => if z_ob x12 5 then z_bI (fX5_lengthOf fu s8 x12 x4 x10) (fun x14 s13 => if z_ob x11 7 then z_bN (fX7_put fu s13 x11 a1 x14) (fun s15 => if z_ob a0 3 then z_let (z_gr a0 2) (fun x16 => if z_ob x16 5 then z_bN (fX5_trim fu s15 x16 x4 x10) (fun s17 => if z_ob a0 3 then z_let (z_gr a0 14) (fun x18 => if z_ob a0 3 then z_let (z_gr a0 2) (fun x19 => if z_ob a0 3 then z_let (z_gr a0 2) (fun x20 => if z_ob x20 5 then z_let (s17 x20 5) (fun x21 => if z_ob x19 5 then z_bI (fX5_hangsOut fu s17 x19 x21) (fun x23 s22 => if (x23 : Int) = 0 then (fX3_measureLine_J81 fu s22 a0 a1 x4 x10 x18 a1 0) else (fX3_measureLine_J81 fu s22 a0 a1 x4 x10 x18 a1 1)) else none) else none) else none) else none) else none) else none) else none) else none) else none) else none) else none)) else none)) else none) else none) else none) else none) else none
theorem gX3_measureLine {l : Launch} {K : z_K} (hst : l.stackTraces = false) (fu : Nat) (s : z_M) (a0 : Int) (a1 : Int) : z_D l K mX3_measureLine 4 102 0 0 [vR a0, vI a1] s (fX3_measureLine fu s a0 a1) := by
  refine z_D_of (lv := [vR a0, vI a1, vU, vU, vU, vU]) hst z_mX3_measureLine rfl ?_ (Nat.le_of_ble_eq_true rfl) rfl
  unfold fX3_measureLine
  refine G_aload_n (x := a0) (pc := 0) dX3_measureLine_0 rfl ?_
  refine G_getR (j := 3) (pc := 1) dX3_measureLine_1 rfl z_CLX3 (by decide) z_wX3_59 (by decide) (fun x1 => ?_)
  refine G_getR (j := 5) (pc := 4) dX3_measureLine_4 rfl z_CLX1 (by decide) z_wX3_95 (by decide) (fun x2 => ?_)
  refine G_iload_n (x := a1) (pc := 7) dX3_measureLine_7 rfl ?_
  refine G_callVI (as := [vI a1]) (st := []) (c := 7) (bc2 := 0) (bs2 := 0) (pc := 8) dX3_measureLine_8 z_mX7_get z_vX7_get z_wX3_98 (gX7_get hst fu s x2 a1) rfl rfl (by decide) rfl rfl ⟨by decide, by decide, by decide, by decide, Nat.le_of_ble_eq_true rfl⟩ rfl (fun x4 s3 => ?_)
  refine G_istore_n (lv' := [vR a0, vI a1, vI x4, vU, vU, vU]) (pc := 11) dX3_measureLine_11 rfl ?_
  refine G_aload_n (x := a0) (pc := 12) dX3_measureLine_12 rfl ?_
  refine G_getR (j := 3) (pc := 13) dX3_measureLine_13 rfl z_CLX3 (by decide) z_wX3_59 (by decide) (fun x5 => ?_)
  refine G_getR (j := 5) (pc := 16) dX3_measureLine_16 rfl z_CLX1 (by decide) z_wX3_95 (by decide) (fun x6 => ?_)
  refine G_iload_n (x := a1) (pc := 19) dX3_measureLine_19 rfl ?_
  refine G_iconst (pc := 20) dX3_measureLine_20 ?_
  refine G_iadd (pc := 21) dX3_measureLine_21 (fun x7 => ?_)
  refine G_callVI (as := [vI x7]) (st := []) (c := 7) (bc2 := 0) (bs2 := 0) (pc := 22) dX3_measureLine_22 z_mX7_get z_vX7_get z_wX3_98 (gX7_get hst fu s3 x6 x7) rfl rfl (by decide) rfl rfl ⟨by decide, by decide, by decide, by decide, Nat.le_of_ble_eq_true rfl⟩ rfl (fun x9 s8 => ?_)
  refine G_iconst (pc := 25) dX3_measureLine_25 ?_
  refine G_isub (pc := 26) dX3_measureLine_26 (fun x10 => ?_)
  refine G_istore_n (lv' := [vR a0, vI a1, vI x4, vI x10, vU, vU]) (pc := 27) dX3_measureLine_27 rfl ?_
  refine G_aload_n (x := a0) (pc := 28) dX3_measureLine_28 rfl ?_
  refine G_getR (j := 11) (pc := 29) dX3_measureLine_29 rfl z_CLX3 (by decide) z_wX3_32 (by decide) (fun x11 => ?_)
  refine G_iload_n (x := a1) (pc := 32) dX3_measureLine_32 rfl ?_
  refine G_aload_n (x := a0) (pc := 33) dX3_measureLine_33 rfl ?_
  refine G_getR (j := 2) (pc := 34) dX3_measureLine_34 rfl z_CLX3 (by decide) z_wX3_55 (by decide) (fun x12 => ?_)
  refine G_iload_n (x := x4) (pc := 37) dX3_measureLine_37 rfl ?_
  refine G_iload_n (x := x10) (pc := 38) dX3_measureLine_38 rfl ?_
  refine G_callVI (as := [vI x4, vI x10]) (st := [vI a1, vR x11]) (c := 5) (bc2 := 0) (bs2 := 0) (pc := 39) dX3_measureLine_39 z_mX5_lengthOf z_vX5_lengthOf z_wX3_102 (gX5_lengthOf hst fu s8 x12 x4 x10) rfl rfl (by decide) rfl rfl ⟨by decide, by decide, by decide, by decide, Nat.le_of_ble_eq_true rfl⟩ rfl (fun x14 s13 => ?_)
  refine G_callVN (as := [vI a1, vI x14]) (st := []) (c := 7) (bc2 := 0) (bs2 := 0) (pc := 42) dX3_measureLine_42 z_mX7_put z_vX7_put z_wX3_91 (gX7_put hst fu s13 x11 a1 x14) rfl rfl (by decide) rfl rfl ⟨by decide, by decide, by decide, by decide, Nat.le_of_ble_eq_true rfl⟩ rfl (fun s15 => ?_)
  refine G_aload_n (x := a0) (pc := 45) dX3_measureLine_45 rfl ?_
  refine G_getR (j := 2) (pc := 46) dX3_measureLine_46 rfl z_CLX3 (by decide) z_wX3_55 (by decide) (fun x16 => ?_)
  refine G_iload_n (x := x4) (pc := 49) dX3_measureLine_49 rfl ?_
  refine G_iload_n (x := x10) (pc := 50) dX3_measureLine_50 rfl ?_
  refine G_callVN (as := [vI x4, vI x10]) (st := []) (c := 5) (bc2 := 0) (bs2 := 0) (pc := 51) dX3_measureLine_51 z_mX5_trim z_vX5_trim z_wX3_108 (gX5_trim hst fu s15 x16 x4 x10) rfl rfl (by decide) rfl rfl ⟨by decide, by decide, by decide, by decide, Nat.le_of_ble_eq_true rfl⟩ rfl (fun s17 => ?_)
  refine G_aload_n (x := a0) (pc := 54) dX3_measureLine_54 rfl ?_
  refine G_getR (j := 14) (pc := 55) dX3_measureLine_55 rfl z_CLX3 (by decide) z_wX3_41 (by decide) (fun x18 => ?_)
  refine G_iload_n (x := a1) (pc := 58) dX3_measureLine_58 rfl ?_
  refine G_aload_n (x := a0) (pc := 59) dX3_measureLine_59 rfl ?_
  refine G_getR (j := 2) (pc := 60) dX3_measureLine_60 rfl z_CLX3 (by decide) z_wX3_55 (by decide) (fun x19 => ?_)
  refine G_aload_n (x := a0) (pc := 63) dX3_measureLine_63 rfl ?_
  refine G_getR (j := 2) (pc := 64) dX3_measureLine_64 rfl z_CLX3 (by decide) z_wX3_55 (by decide) (fun x20 => ?_)
  refine G_getI (j := 5) (pc := 67) dX3_measureLine_67 rfl z_CLX5 (by decide) z_wX3_111 (by decide) (fun x21 => ?_)
  refine G_callVI (as := [vI x21]) (st := [vI a1, vR x18]) (c := 5) (bc2 := 0) (bs2 := 0) (pc := 70) dX3_measureLine_70 z_mX5_hangsOut z_vX5_hangsOut z_wX3_114 (gX5_hangsOut hst fu s17 x19 x21) rfl rfl (by decide) rfl rfl ⟨by decide, by decide, by decide, by decide, Nat.le_of_ble_eq_true rfl⟩ rfl (fun x23 s22 => ?_)
  refine G_if_eq (tgt := 80) (pc := 73) dX3_measureLine_73 ?_ ?_
  · refine G_iconst (pc := 80) dX3_measureLine_80 ?_
    exact gX3_measureLine_J81 hst fu s22 a0 a1 x4 x10 x18 a1 0
  · refine G_iconst (pc := 76) dX3_measureLine_76 ?_
    refine G_goto (tgt := 81) (pc := 77) dX3_measureLine_77 ?_
    exact gX3_measureLine_J81 hst fu s22 a0 a1 x4 x10 x18 a1 1
def fX3_restToShare_J52 (fu : Nat) (s : z_M) (t0 : Int) : z_O := some (vI t0, s)
theorem gX3_restToShare_J52 {l : Launch} {K : z_K} (hst : l.stackTraces = false) (fu : Nat) (s : z_M) (t0 : Int) : G l K mX3_restToShare 1 21 0 0 52 [vU, vU, vU] [vI t0] s (fX3_restToShare_J52 fu s t0) := by
  unfold fX3_restToShare_J52
  exact G_iret (pc := 52) dX3_restToShare_52
def fX3_restToShare_J51 (fu : Nat) (s : z_M) : z_O := fX3_restToShare_J52 fu s 0
theorem gX3_restToShare_J51 {l : Launch} {K : z_K} (hst : l.stackTraces = false) (fu : Nat) (s : z_M) : G l K mX3_restToShare 1 21 0 0 51 [vU, vU, vU] [] s (fX3_restToShare_J51 fu s) := by
  unfold fX3_restToShare_J51
  refine G_iconst (pc := 51) dX3_restToShare_51 ?_
  exact gX3_restToShare_J52 hst fu s 0
def fX3_restToShare (fu : Nat) (s : z_M) (a0 : Int) (a1 : Int) : z_O := if z_ob a0 3 then z_let (z_gr a0 4) (fun x1 => if z_ob x1 7 then z_bI (fX7_get fu s x1 0) (fun x3 s2 => if z_ob a0 3 then z_let (z_gr a0 11) (fun x4 => if z_ob x4 7 then z_bI (fX7_get fu s2 x4 a1) (fun x6 s5 => z_let (z_w (x3 - x6)) (fun x7 => if z_ob a0 3 then z_let (z_gr a0 4) (fun x8 => if z_ob x8 7 then z_bI (fX7_get fu s5 x8 4) (fun x10 s9 => if (x10 : Int) ≠ 1 then (fX3_restToShare_J51 fu s9) else (if (x7 : Int) ≤ 0 then (fX3_restToShare_J51 fu s9) else (if z_ob a0 3 then z_let (z_gr a0 3) (fun x11 => if z_ob x11 1 then z_let (s9 x11 6) (fun x12 => z_let (z_w (x12 - 1)) (fun x13 => if (x13 : Int) ≤ a1 then (fX3_restToShare_J51 fu s9) else (fX3_restToShare_J52 fu s9 x7))) else none) else none))) else none) else none)) else none) else none) else none) else none
theorem gX3_restToShare {l : Launch} {K : z_K} (hst : l.stackTraces = false) (fu : Nat) (s : z_M) (a0 : Int) (a1 : Int) : z_D l K mX3_restToShare 1 21 0 0 [vR a0, vI a1] s (fX3_restToShare fu s a0 a1) := by
  refine z_D_of (lv := [vR a0, vI a1, vU]) hst z_mX3_restToShare rfl ?_ (Nat.le_of_ble_eq_true rfl) rfl
  unfold fX3_restToShare
  refine G_aload_n (x := a0) (pc := 0) dX3_restToShare_0 rfl ?_
  refine G_getR (j := 4) (pc := 1) dX3_restToShare_1 rfl z_CLX3 (by decide) z_wX3_63 (by decide) (fun x1 => ?_)
  refine G_iconst (pc := 4) dX3_restToShare_4 ?_
  refine G_callVI (as := [vI 0]) (st := []) (c := 7) (bc2 := 0) (bs2 := 0) (pc := 5) dX3_restToShare_5 z_mX7_get z_vX7_get z_wX3_98 (gX7_get hst fu s x1 0) rfl rfl (by decide) rfl rfl ⟨by decide, by decide, by decide, by decide, Nat.le_of_ble_eq_true rfl⟩ rfl (fun x3 s2 => ?_)
  refine G_aload_n (x := a0) (pc := 8) dX3_restToShare_8 rfl ?_
  refine G_getR (j := 11) (pc := 9) dX3_restToShare_9 rfl z_CLX3 (by decide) z_wX3_32 (by decide) (fun x4 => ?_)
  refine G_iload_n (x := a1) (pc := 12) dX3_restToShare_12 rfl ?_
  refine G_callVI (as := [vI a1]) (st := [vI x3]) (c := 7) (bc2 := 0) (bs2 := 0) (pc := 13) dX3_restToShare_13 z_mX7_get z_vX7_get z_wX3_98 (gX7_get hst fu s2 x4 a1) rfl rfl (by decide) rfl rfl ⟨by decide, by decide, by decide, by decide, Nat.le_of_ble_eq_true rfl⟩ rfl (fun x6 s5 => ?_)
  refine G_isub (pc := 16) dX3_restToShare_16 (fun x7 => ?_)
  refine G_istore_n (lv' := [vR a0, vI a1, vI x7]) (pc := 17) dX3_restToShare_17 rfl ?_
  refine G_aload_n (x := a0) (pc := 18) dX3_restToShare_18 rfl ?_
  refine G_getR (j := 4) (pc := 19) dX3_restToShare_19 rfl z_CLX3 (by decide) z_wX3_63 (by decide) (fun x8 => ?_)
  refine G_iconst (pc := 22) dX3_restToShare_22 ?_
  refine G_callVI (as := [vI 4]) (st := []) (c := 7) (bc2 := 0) (bs2 := 0) (pc := 23) dX3_restToShare_23 z_mX7_get z_vX7_get z_wX3_98 (gX7_get hst fu s5 x8 4) rfl rfl (by decide) rfl rfl ⟨by decide, by decide, by decide, by decide, Nat.le_of_ble_eq_true rfl⟩ rfl (fun x10 s9 => ?_)
  refine G_iconst (pc := 26) dX3_restToShare_26 ?_
  refine G_icmp_ne (tgt := 51) (pc := 27) dX3_restToShare_27 ?_ ?_
  · refine G_fg (lv2 := [vU, vU, vU]) ⟨Or.inl rfl, Or.inl rfl, Or.inl rfl, trivial⟩ ?_
    exact gX3_restToShare_J51 hst fu s9
  · refine G_iload_n (x := x7) (pc := 30) dX3_restToShare_30 rfl ?_
    refine G_if_le (tgt := 51) (pc := 31) dX3_restToShare_31 ?_ ?_
    · refine G_fg (lv2 := [vU, vU, vU]) ⟨Or.inl rfl, Or.inl rfl, Or.inl rfl, trivial⟩ ?_
      exact gX3_restToShare_J51 hst fu s9
    · refine G_iload_n (x := a1) (pc := 34) dX3_restToShare_34 rfl ?_
      refine G_aload_n (x := a0) (pc := 35) dX3_restToShare_35 rfl ?_
      refine G_getR (j := 3) (pc := 36) dX3_restToShare_36 rfl z_CLX3 (by decide) z_wX3_59 (by decide) (fun x11 => ?_)
      refine G_getI (j := 6) (pc := 39) dX3_restToShare_39 rfl z_CLX1 (by decide) z_wX3_78 (by decide) (fun x12 => ?_)
      refine G_iconst (pc := 42) dX3_restToShare_42 ?_
      refine G_isub (pc := 43) dX3_restToShare_43 (fun x13 => ?_)
      refine G_icmp_ge (tgt := 51) (pc := 44) dX3_restToShare_44 ?_ ?_
      · refine G_fg (lv2 := [vU, vU, vU]) ⟨Or.inl rfl, Or.inl rfl, Or.inl rfl, trivial⟩ ?_
        exact gX3_restToShare_J51 hst fu s9
      · refine G_iload_n (x := x7) (pc := 47) dX3_restToShare_47 rfl ?_
        refine G_goto (tgt := 52) (pc := 48) dX3_restToShare_48 ?_
        refine G_fg (lv2 := [vU, vU, vU]) ⟨Or.inl rfl, Or.inl rfl, Or.inl rfl, trivial⟩ ?_
        exact gX3_restToShare_J52 hst fu s9 x7
def fX0_padAhead (fu : Nat) (s : z_M) (a0 : Int) (a1 : Int) : z_O := if z_ob a0 0 then z_let (z_gr a0 4) (fun x1 => if z_ob x1 7 then z_bI (fX7_get fu s x1 a1) (fun x3 s2 => if 2 ≠ 0 then z_let (z_w (Int.tdiv x3 2)) (fun x4 => if z_ob a0 0 then z_let (z_gr a0 5) (fun x5 => if z_ob x5 7 then z_bI (fX7_get fu s2 x5 a1) (fun x7 s6 => z_let (z_w (x4 - x7)) (fun x8 => some (vI x8, s6))) else none) else none) else none) else none) else none
theorem gX0_padAhead {l : Launch} {K : z_K} (hst : l.stackTraces = false) (fu : Nat) (s : z_M) (a0 : Int) (a1 : Int) : z_D l K mX0_padAhead 1 21 0 0 [vR a0, vI a1] s (fX0_padAhead fu s a0 a1) := by
  refine z_D_of (lv := [vR a0, vI a1]) hst z_mX0_padAhead rfl ?_ (Nat.le_of_ble_eq_true rfl) rfl
  unfold fX0_padAhead
  refine G_aload_n (x := a0) (pc := 0) dX0_padAhead_0 rfl ?_
  refine G_getR (j := 4) (pc := 1) dX0_padAhead_1 rfl z_CLX0 (by decide) z_wX0_26 (by decide) (fun x1 => ?_)
  refine G_iload_n (x := a1) (pc := 4) dX0_padAhead_4 rfl ?_
  refine G_callVI (as := [vI a1]) (st := []) (c := 7) (bc2 := 0) (bs2 := 0) (pc := 5) dX0_padAhead_5 z_mX7_get z_vX7_get z_wX0_49 (gX7_get hst fu s x1 a1) rfl rfl (by decide) rfl rfl ⟨by decide, by decide, by decide, by decide, Nat.le_of_ble_eq_true rfl⟩ rfl (fun x3 s2 => ?_)
  refine G_iconst (pc := 8) dX0_padAhead_8 ?_
  refine G_idiv (pc := 9) dX0_padAhead_9 (fun x4 => ?_)
  refine G_aload_n (x := a0) (pc := 10) dX0_padAhead_10 rfl ?_
  refine G_getR (j := 5) (pc := 11) dX0_padAhead_11 rfl z_CLX0 (by decide) z_wX0_29 (by decide) (fun x5 => ?_)
  refine G_iload_n (x := a1) (pc := 14) dX0_padAhead_14 rfl ?_
  refine G_callVI (as := [vI a1]) (st := [vI x4]) (c := 7) (bc2 := 0) (bs2 := 0) (pc := 15) dX0_padAhead_15 z_mX7_get z_vX7_get z_wX0_49 (gX7_get hst fu s2 x5 a1) rfl rfl (by decide) rfl rfl ⟨by decide, by decide, by decide, by decide, Nat.le_of_ble_eq_true rfl⟩ rfl (fun x7 s6 => ?_)
  refine G_isub (pc := 18) dX0_padAhead_18 (fun x8 => ?_)
  exact G_iret (pc := 19) dX0_padAhead_19
def fX5_widthOf_J39 (fu : Nat) (s : z_M) (t0 : Int) : z_O := some (vI t0, s)
theorem gX5_widthOf_J39 {l : Launch} {K : z_K} (hst : l.stackTraces = false) (fu : Nat) (s : z_M) (t0 : Int) : G l K mX5_widthOf 2 42 0 0 39 [vU, vU] [vI t0] s (fX5_widthOf_J39 fu s t0) := by
  unfold fX5_widthOf_J39
  exact G_iret (pc := 39) dX5_widthOf_39
def fX5_widthOf_J24 (fu : Nat) (s : z_M) : z_O := fX5_widthOf_J39 fu s 0
theorem gX5_widthOf_J24 {l : Launch} {K : z_K} (hst : l.stackTraces = false) (fu : Nat) (s : z_M) : G l K mX5_widthOf 2 42 0 0 24 [vU, vU] [] s (fX5_widthOf_J24 fu s) := by
  unfold fX5_widthOf_J24
  refine G_iconst (pc := 24) dX5_widthOf_24 ?_
  refine G_goto (tgt := 39) (pc := 25) dX5_widthOf_25 ?_
  exact gX5_widthOf_J39 hst fu s 0
def fX5_widthOf (fu : Nat) (s : z_M) (a0 : Int) (a1 : Int) : z_O := if z_ob a0 5 then z_let (s a0 4) (fun x1 => if (a1 : Int) < x1 then (fX5_widthOf_J24 fu s) else (if z_ob a0 5 then z_let (s a0 5) (fun x2 => if (x2 : Int) < a1 then (fX5_widthOf_J24 fu s) else (if z_ob a0 5 then z_bI (fX5_hangsOut fu s a0 a1) (fun x4 s3 => if (x4 : Int) = 0 then (if z_ob a0 5 then z_let (z_gr a0 0) (fun x5 => if z_ob x5 10 then z_let (z_gr x5 5) (fun x6 => if z_ob x6 7 then z_bI (fX7_get fu s3 x6 a1) (fun x8 s7 => fX5_widthOf_J39 fu s7 x8) else none) else none) else none) else (fX5_widthOf_J24 fu s3)) else none)) else none)) else none
theorem gX5_widthOf {l : Launch} {K : z_K} (hst : l.stackTraces = false) (fu : Nat) (s : z_M) (a0 : Int) (a1 : Int) : z_D l K mX5_widthOf 2 42 0 0 [vR a0, vI a1] s (fX5_widthOf fu s a0 a1) := by
  refine z_D_of (lv := [vR a0, vI a1]) hst z_mX5_widthOf rfl ?_ (Nat.le_of_ble_eq_true rfl) rfl
  unfold fX5_widthOf
  refine G_iload_n (x := a1) (pc := 0) dX5_widthOf_0 rfl ?_
  refine G_aload_n (x := a0) (pc := 1) dX5_widthOf_1 rfl ?_
  refine G_getI (j := 4) (pc := 2) dX5_widthOf_2 rfl z_CLX5 (by decide) z_wX5_49 (by decide) (fun x1 => ?_)
  refine G_icmp_lt (tgt := 24) (pc := 5) dX5_widthOf_5 ?_ ?_
  · refine G_fg (lv2 := [vU, vU]) ⟨Or.inl rfl, Or.inl rfl, trivial⟩ ?_
    exact gX5_widthOf_J24 hst fu s
  · refine G_iload_n (x := a1) (pc := 8) dX5_widthOf_8 rfl ?_
    refine G_aload_n (x := a0) (pc := 9) dX5_widthOf_9 rfl ?_
    refine G_getI (j := 5) (pc := 10) dX5_widthOf_10 rfl z_CLX5 (by decide) z_wX5_52 (by decide) (fun x2 => ?_)
    refine G_icmp_gt (tgt := 24) (pc := 13) dX5_widthOf_13 ?_ ?_
    · refine G_fg (lv2 := [vU, vU]) ⟨Or.inl rfl, Or.inl rfl, trivial⟩ ?_
      exact gX5_widthOf_J24 hst fu s
    · refine G_aload_n (x := a0) (pc := 16) dX5_widthOf_16 rfl ?_
      refine G_iload_n (x := a1) (pc := 17) dX5_widthOf_17 rfl ?_
      refine G_callVI (as := [vI a1]) (st := []) (c := 5) (bc2 := 0) (bs2 := 0) (pc := 18) dX5_widthOf_18 z_mX5_hangsOut z_vX5_hangsOut z_wX5_62 (gX5_hangsOut hst fu s a0 a1) rfl rfl (by decide) rfl rfl ⟨by decide, by decide, by decide, by decide, Nat.le_of_ble_eq_true rfl⟩ rfl (fun x4 s3 => ?_)
      refine G_if_eq (tgt := 28) (pc := 21) dX5_widthOf_21 ?_ ?_
      · refine G_aload_n (x := a0) (pc := 28) dX5_widthOf_28 rfl ?_
        refine G_getR (j := 0) (pc := 29) dX5_widthOf_29 rfl z_CLX5 (by decide) z_wX5_20 (by decide) (fun x5 => ?_)
        refine G_getR (j := 5) (pc := 32) dX5_widthOf_32 rfl z_CLX10 (by decide) z_wX5_66 (by decide) (fun x6 => ?_)
        refine G_iload_n (x := a1) (pc := 35) dX5_widthOf_35 rfl ?_
        refine G_callVI (as := [vI a1]) (st := []) (c := 7) (bc2 := 0) (bs2 := 0) (pc := 36) dX5_widthOf_36 z_mX7_get z_vX7_get z_wX5_58 (gX7_get hst fu s3 x6 a1) rfl rfl (by decide) rfl rfl ⟨by decide, by decide, by decide, by decide, Nat.le_of_ble_eq_true rfl⟩ rfl (fun x8 s7 => ?_)
        refine G_fg (lv2 := [vU, vU]) ⟨Or.inl rfl, Or.inl rfl, trivial⟩ ?_
        exact gX5_widthOf_J39 hst fu s7 x8
      · refine G_fg (lv2 := [vU, vU]) ⟨Or.inl rfl, Or.inl rfl, trivial⟩ ?_
        exact gX5_widthOf_J24 hst fu s3
def fX3_placeUnit_J142 (fu : Nat) (s : z_M) (a0 : Int) (a4 : Int) (a6 : Int) (a7 : Int) (t0 : Int) (t1 : Int) (r : z_M → Int → Int → z_O) (k : z_M → z_O) : z_O := z_let (z_w (t0 + t1)) (fun x37 => z_let (z_w (a7 + 1)) (fun x38 => r s x37 x38))
theorem gX3_placeUnit_J142 {l : Launch} {K : z_K} (hst : l.stackTraces = false) (fu : Nat) (s : z_M) (a0 : Int) (a4 : Int) (a6 : Int) (a7 : Int) (t0 : Int) (t1 : Int) (r : z_M → Int → Int → z_O) (k : z_M → z_O) (hr : ∀ (s : z_M) (a5 : Int) (a7 : Int), G l K mX3_placeUnit 3 63 0 0 101 [vR a0, vU, vU, vU, vI a4, vI a5, vI a6, vI a7] [] s (r s a5 a7)) (hk : ∀ (s : z_M), G l K mX3_placeUnit 3 63 0 0 151 [vU, vU, vU, vU, vU, vU, vU, vU] [] s (k s)) : G l K mX3_placeUnit 3 63 0 0 142 [vR a0, vU, vU, vU, vI a4, vU, vI a6, vI a7] [vI t1, vI t0] s (fX3_placeUnit_J142 fu s a0 a4 a6 a7 t0 t1 r k) := by
  unfold fX3_placeUnit_J142
  refine G_iadd (pc := 142) dX3_placeUnit_142 (fun x37 => ?_)
  refine G_istore (lv' := [vR a0, vU, vU, vU, vI a4, vI x37, vI a6, vI a7]) (pc := 143) dX3_placeUnit_143 rfl ?_
  refine G_iinc (x := a7) (g := fun x38 => [vR a0, vU, vU, vU, vI a4, vI x37, vI a6, vI x38]) (pc := 145) dX3_placeUnit_145 rfl (fun _ => rfl) (fun x38 => ?_)
  refine G_goto (tgt := 101) (pc := 148) dX3_placeUnit_148 ?_
  exact hr s x37 x38
def fX3_placeUnit_L101 (fu : Nat) (a0 : Int) (a4 : Int) (a6 : Int) : Nat → z_M → Int → Int → (z_M → z_O) → z_O
  | 0, _, _, _, _ => none
  | F + 1, s, a5, a7, k => if (a6 : Int) ≤ a7 then (k s) else (if z_ob a0 3 then z_let (z_gr a0 10) (fun x31 => if z_ob x31 7 then z_bN (fX7_put fu s x31 a7 a5) (fun s32 => if (a4 : Int) = 0 then (if z_ob a0 3 then z_let (z_gr a0 1) (fun x33 => if z_ob x33 10 then z_let (z_gr x33 14) (fun x34 => if z_ob x34 7 then z_bI (fX7_get fu s32 x34 a7) (fun x36 s35 => fX3_placeUnit_J142 fu s35 a0 a4 a6 a7 a5 x36 (fun w v5 v7 => fX3_placeUnit_L101 fu a0 a4 a6 F w v5 v7 k) k) else none) else none) else none) else (fX3_placeUnit_J142 fu s32 a0 a4 a6 a7 a5 0 (fun w v5 v7 => fX3_placeUnit_L101 fu a0 a4 a6 F w v5 v7 k) k)) else none) else none)
theorem gX3_placeUnit_L101 {l : Launch} {K : z_K} (hst : l.stackTraces = false) (fu : Nat) (a0 : Int) (a4 : Int) (a6 : Int) (k : z_M → z_O) (hk : ∀ (s : z_M), G l K mX3_placeUnit 3 63 0 0 151 [vU, vU, vU, vU, vU, vU, vU, vU] [] s (k s)) : ∀ (F : Nat) (s : z_M) (a5 : Int) (a7 : Int), G l K mX3_placeUnit 3 63 0 0 101 [vR a0, vU, vU, vU, vI a4, vI a5, vI a6, vI a7] [] s (fX3_placeUnit_L101 fu a0 a4 a6 F s a5 a7 k) := by
  intro F
  induction F with
  | zero => exact fun s a5 a7 h => absurd rfl h
  | succ F ih =>
    intro s a5 a7
    rw [fX3_placeUnit_L101]
    refine G_iload (x := a7) (pc := 101) dX3_placeUnit_101 rfl ?_
    refine G_iload (x := a6) (pc := 103) dX3_placeUnit_103 rfl ?_
    refine G_icmp_ge (tgt := 151) (pc := 105) dX3_placeUnit_105 ?_ ?_
    · refine G_fg (lv2 := [vU, vU, vU, vU, vU, vU, vU, vU]) ⟨Or.inl rfl, Or.inl rfl, Or.inl rfl, Or.inl rfl, Or.inl rfl, Or.inl rfl, Or.inl rfl, Or.inl rfl, trivial⟩ ?_
      exact hk s
    · refine G_aload_n (x := a0) (pc := 108) dX3_placeUnit_108 rfl ?_
      refine G_getR (j := 10) (pc := 109) dX3_placeUnit_109 rfl z_CLX3 (by decide) z_wX3_29 (by decide) (fun x31 => ?_)
      refine G_iload (x := a7) (pc := 112) dX3_placeUnit_112 rfl ?_
      refine G_iload (x := a5) (pc := 114) dX3_placeUnit_114 rfl ?_
      refine G_callVN (as := [vI a7, vI a5]) (st := []) (c := 7) (bc2 := 0) (bs2 := 0) (pc := 116) dX3_placeUnit_116 z_mX7_put z_vX7_put z_wX3_91 (gX7_put hst fu s x31 a7 a5) rfl rfl (by decide) rfl rfl ⟨by decide, by decide, by decide, by decide, Nat.le_of_ble_eq_true rfl⟩ rfl (fun s32 => ?_)
      refine G_iload (x := a5) (pc := 119) dX3_placeUnit_119 rfl ?_
      refine G_iload (x := a4) (pc := 121) dX3_placeUnit_121 rfl ?_
      refine G_if_eq (tgt := 130) (pc := 123) dX3_placeUnit_123 ?_ ?_
      · refine G_aload_n (x := a0) (pc := 130) dX3_placeUnit_130 rfl ?_
        refine G_getR (j := 1) (pc := 131) dX3_placeUnit_131 rfl z_CLX3 (by decide) z_wX3_51 (by decide) (fun x33 => ?_)
        refine G_getR (j := 14) (pc := 134) dX3_placeUnit_134 rfl z_CLX10 (by decide) z_wX3_174 (by decide) (fun x34 => ?_)
        refine G_iload (x := a7) (pc := 137) dX3_placeUnit_137 rfl ?_
        refine G_callVI (as := [vI a7]) (st := [vI a5]) (c := 7) (bc2 := 0) (bs2 := 0) (pc := 139) dX3_placeUnit_139 z_mX7_get z_vX7_get z_wX3_98 (gX7_get hst fu s32 x34 a7) rfl rfl (by decide) rfl rfl ⟨by decide, by decide, by decide, by decide, Nat.le_of_ble_eq_true rfl⟩ rfl (fun x36 s35 => ?_)
        refine G_fg (lv2 := [vR a0, vU, vU, vU, vI a4, vU, vI a6, vI a7]) ⟨Or.inr rfl, Or.inl rfl, Or.inl rfl, Or.inl rfl, Or.inr rfl, Or.inl rfl, Or.inr rfl, Or.inr rfl, trivial⟩ ?_
        exact gX3_placeUnit_J142 hst fu s35 a0 a4 a6 a7 a5 x36 _ _ (fun w v5 v7 => ih w v5 v7) hk
      · refine G_iconst (pc := 126) dX3_placeUnit_126 ?_
        refine G_goto (tgt := 142) (pc := 127) dX3_placeUnit_127 ?_
        refine G_fg (lv2 := [vR a0, vU, vU, vU, vI a4, vU, vI a6, vI a7]) ⟨Or.inr rfl, Or.inl rfl, Or.inl rfl, Or.inl rfl, Or.inr rfl, Or.inl rfl, Or.inr rfl, Or.inr rfl, trivial⟩ ?_
        exact gX3_placeUnit_J142 hst fu s32 a0 a4 a6 a7 a5 0 _ _ (fun w v5 v7 => ih w v5 v7) hk
def fX3_placeUnit (fu : Nat) (s : z_M) (a0 : Int) (a1 : Int) (a2 : Int) (a3 : Int) : z_O := if z_ob a0 3 then z_let (z_gr a0 6) (fun x1 => if z_ob x1 7 then z_bN (fX7_put fu s x1 a1 a2) (fun s2 => if z_ob a0 3 then z_let (z_gr a0 7) (fun x3 => if z_ob x3 7 then z_bN (fX7_put fu s2 x3 a1 a3) (fun s4 => if z_ob a0 3 then z_let (z_gr a0 8) (fun x5 => if z_ob a0 3 then z_let (z_gr a0 2) (fun x6 => if z_ob x6 5 then z_bI (fX5_widthOf fu s4 x6 a1) (fun x8 s7 => if z_ob x5 7 then z_bN (fX7_put fu s7 x5 a1 x8) (fun s9 => if z_ob a0 3 then z_let (z_gr a0 9) (fun x10 => if z_ob a0 3 then z_let (z_gr a0 2) (fun x11 => if z_ob x11 5 then z_bI (fX5_spaceOf fu s9 x11 a1) (fun x13 s12 => if z_ob x10 7 then z_bN (fX7_put fu s12 x10 a1 x13) (fun s14 => if z_ob a0 3 then z_let (z_gr a0 1) (fun x15 => if z_ob x15 10 then z_bI (fX10_isAcross fu s14 x15 a1) (fun x17 s16 => if z_ob a0 3 then z_let (z_gr a0 1) (fun x18 => if z_ob x18 10 then z_let (z_gr x18 3) (fun x19 => if z_ob x19 7 then z_bI (fX7_get fu s16 x19 a1) (fun x21 s20 => if z_ob a0 3 then z_let (z_gr a0 1) (fun x22 => if z_ob x22 10 then z_let (z_gr x22 4) (fun x23 => if z_ob x23 7 then z_bI (fX7_get fu s20 x23 a1) (fun x25 s24 => z_let (z_w (x21 + x25)) (fun x26 => if z_ob a0 3 then z_let (z_gr a0 1) (fun x27 => if z_ob x27 10 then z_let (z_gr x27 3) (fun x28 => if z_ob x28 7 then z_bI (fX7_get fu s24 x28 a1) (fun x30 s29 => fX3_placeUnit_L101 fu a0 x17 x26 fu s29 a3 x30 (fun s39 => some (vN, s39))) else none) else none) else none)) else none) else none) else none) else none) else none) else none) else none) else none) else none) else none) else none) else none) else none) else none) else none) else none) else none) else none) else none) else none
theorem gX3_placeUnit {l : Launch} {K : z_K} (hst : l.stackTraces = false) (fu : Nat) (s : z_M) (a0 : Int) (a1 : Int) (a2 : Int) (a3 : Int) : z_D l K mX3_placeUnit 3 63 0 0 [vR a0, vI a1, vI a2, vI a3] s (fX3_placeUnit fu s a0 a1 a2 a3) := by
  refine z_D_of (lv := [vR a0, vI a1, vI a2, vI a3, vU, vU, vU, vU]) hst z_mX3_placeUnit rfl ?_ (Nat.le_of_ble_eq_true rfl) rfl
  unfold fX3_placeUnit
  refine G_aload_n (x := a0) (pc := 0) dX3_placeUnit_0 rfl ?_
  refine G_getR (j := 6) (pc := 1) dX3_placeUnit_1 rfl z_CLX3 (by decide) z_wX3_14 (by decide) (fun x1 => ?_)
  refine G_iload_n (x := a1) (pc := 4) dX3_placeUnit_4 rfl ?_
  refine G_iload_n (x := a2) (pc := 5) dX3_placeUnit_5 rfl ?_
  refine G_callVN (as := [vI a1, vI a2]) (st := []) (c := 7) (bc2 := 0) (bs2 := 0) (pc := 6) dX3_placeUnit_6 z_mX7_put z_vX7_put z_wX3_91 (gX7_put hst fu s x1 a1 a2) rfl rfl (by decide) rfl rfl ⟨by decide, by decide, by decide, by decide, Nat.le_of_ble_eq_true rfl⟩ rfl (fun s2 => ?_)
  refine G_aload_n (x := a0) (pc := 9) dX3_placeUnit_9 rfl ?_
  refine G_getR (j := 7) (pc := 10) dX3_placeUnit_10 rfl z_CLX3 (by decide) z_wX3_20 (by decide) (fun x3 => ?_)
  refine G_iload_n (x := a1) (pc := 13) dX3_placeUnit_13 rfl ?_
  refine G_iload_n (x := a3) (pc := 14) dX3_placeUnit_14 rfl ?_
  refine G_callVN (as := [vI a1, vI a3]) (st := []) (c := 7) (bc2 := 0) (bs2 := 0) (pc := 15) dX3_placeUnit_15 z_mX7_put z_vX7_put z_wX3_91 (gX7_put hst fu s2 x3 a1 a3) rfl rfl (by decide) rfl rfl ⟨by decide, by decide, by decide, by decide, Nat.le_of_ble_eq_true rfl⟩ rfl (fun s4 => ?_)
  refine G_aload_n (x := a0) (pc := 18) dX3_placeUnit_18 rfl ?_
  refine G_getR (j := 8) (pc := 19) dX3_placeUnit_19 rfl z_CLX3 (by decide) z_wX3_23 (by decide) (fun x5 => ?_)
  refine G_iload_n (x := a1) (pc := 22) dX3_placeUnit_22 rfl ?_
  refine G_aload_n (x := a0) (pc := 23) dX3_placeUnit_23 rfl ?_
  refine G_getR (j := 2) (pc := 24) dX3_placeUnit_24 rfl z_CLX3 (by decide) z_wX3_55 (by decide) (fun x6 => ?_)
  refine G_iload_n (x := a1) (pc := 27) dX3_placeUnit_27 rfl ?_
  refine G_callVI (as := [vI a1]) (st := [vI a1, vR x5]) (c := 5) (bc2 := 0) (bs2 := 0) (pc := 28) dX3_placeUnit_28 z_mX5_widthOf z_vX5_widthOf z_wX3_158 (gX5_widthOf hst fu s4 x6 a1) rfl rfl (by decide) rfl rfl ⟨by decide, by decide, by decide, by decide, Nat.le_of_ble_eq_true rfl⟩ rfl (fun x8 s7 => ?_)
  refine G_callVN (as := [vI a1, vI x8]) (st := []) (c := 7) (bc2 := 0) (bs2 := 0) (pc := 31) dX3_placeUnit_31 z_mX7_put z_vX7_put z_wX3_91 (gX7_put hst fu s7 x5 a1 x8) rfl rfl (by decide) rfl rfl ⟨by decide, by decide, by decide, by decide, Nat.le_of_ble_eq_true rfl⟩ rfl (fun s9 => ?_)
  refine G_aload_n (x := a0) (pc := 34) dX3_placeUnit_34 rfl ?_
  refine G_getR (j := 9) (pc := 35) dX3_placeUnit_35 rfl z_CLX3 (by decide) z_wX3_26 (by decide) (fun x10 => ?_)
  refine G_iload_n (x := a1) (pc := 38) dX3_placeUnit_38 rfl ?_
  refine G_aload_n (x := a0) (pc := 39) dX3_placeUnit_39 rfl ?_
  refine G_getR (j := 2) (pc := 40) dX3_placeUnit_40 rfl z_CLX3 (by decide) z_wX3_55 (by decide) (fun x11 => ?_)
  refine G_iload_n (x := a1) (pc := 43) dX3_placeUnit_43 rfl ?_
  refine G_callVI (as := [vI a1]) (st := [vI a1, vR x10]) (c := 5) (bc2 := 0) (bs2 := 0) (pc := 44) dX3_placeUnit_44 z_mX5_spaceOf z_vX5_spaceOf z_wX3_145 (gX5_spaceOf hst fu s9 x11 a1) rfl rfl (by decide) rfl rfl ⟨by decide, by decide, by decide, by decide, Nat.le_of_ble_eq_true rfl⟩ rfl (fun x13 s12 => ?_)
  refine G_callVN (as := [vI a1, vI x13]) (st := []) (c := 7) (bc2 := 0) (bs2 := 0) (pc := 47) dX3_placeUnit_47 z_mX7_put z_vX7_put z_wX3_91 (gX7_put hst fu s12 x10 a1 x13) rfl rfl (by decide) rfl rfl ⟨by decide, by decide, by decide, by decide, Nat.le_of_ble_eq_true rfl⟩ rfl (fun s14 => ?_)
  refine G_aload_n (x := a0) (pc := 50) dX3_placeUnit_50 rfl ?_
  refine G_getR (j := 1) (pc := 51) dX3_placeUnit_51 rfl z_CLX3 (by decide) z_wX3_51 (by decide) (fun x15 => ?_)
  refine G_iload_n (x := a1) (pc := 54) dX3_placeUnit_54 rfl ?_
  refine G_callVI (as := [vI a1]) (st := []) (c := 10) (bc2 := 0) (bs2 := 0) (pc := 55) dX3_placeUnit_55 z_mX10_isAcross z_vX10_isAcross z_wX3_167 (gX10_isAcross hst fu s14 x15 a1) rfl rfl (by decide) rfl rfl ⟨by decide, by decide, by decide, by decide, Nat.le_of_ble_eq_true rfl⟩ rfl (fun x17 s16 => ?_)
  refine G_istore (lv' := [vR a0, vI a1, vI a2, vI a3, vI x17, vU, vU, vU]) (pc := 58) dX3_placeUnit_58 rfl ?_
  refine G_iload_n (x := a3) (pc := 60) dX3_placeUnit_60 rfl ?_
  refine G_istore (lv' := [vR a0, vI a1, vI a2, vI a3, vI x17, vI a3, vU, vU]) (pc := 61) dX3_placeUnit_61 rfl ?_
  refine G_aload_n (x := a0) (pc := 63) dX3_placeUnit_63 rfl ?_
  refine G_getR (j := 1) (pc := 64) dX3_placeUnit_64 rfl z_CLX3 (by decide) z_wX3_51 (by decide) (fun x18 => ?_)
  refine G_getR (j := 3) (pc := 67) dX3_placeUnit_67 rfl z_CLX10 (by decide) z_wX3_170 (by decide) (fun x19 => ?_)
  refine G_iload_n (x := a1) (pc := 70) dX3_placeUnit_70 rfl ?_
  refine G_callVI (as := [vI a1]) (st := []) (c := 7) (bc2 := 0) (bs2 := 0) (pc := 71) dX3_placeUnit_71 z_mX7_get z_vX7_get z_wX3_98 (gX7_get hst fu s16 x19 a1) rfl rfl (by decide) rfl rfl ⟨by decide, by decide, by decide, by decide, Nat.le_of_ble_eq_true rfl⟩ rfl (fun x21 s20 => ?_)
  refine G_aload_n (x := a0) (pc := 74) dX3_placeUnit_74 rfl ?_
  refine G_getR (j := 1) (pc := 75) dX3_placeUnit_75 rfl z_CLX3 (by decide) z_wX3_51 (by decide) (fun x22 => ?_)
  refine G_getR (j := 4) (pc := 78) dX3_placeUnit_78 rfl z_CLX10 (by decide) z_wX3_171 (by decide) (fun x23 => ?_)
  refine G_iload_n (x := a1) (pc := 81) dX3_placeUnit_81 rfl ?_
  refine G_callVI (as := [vI a1]) (st := [vI x21]) (c := 7) (bc2 := 0) (bs2 := 0) (pc := 82) dX3_placeUnit_82 z_mX7_get z_vX7_get z_wX3_98 (gX7_get hst fu s20 x23 a1) rfl rfl (by decide) rfl rfl ⟨by decide, by decide, by decide, by decide, Nat.le_of_ble_eq_true rfl⟩ rfl (fun x25 s24 => ?_)
  refine G_iadd (pc := 85) dX3_placeUnit_85 (fun x26 => ?_)
  refine G_istore (lv' := [vR a0, vI a1, vI a2, vI a3, vI x17, vI a3, vI x26, vU]) (pc := 86) dX3_placeUnit_86 rfl ?_
  refine G_aload_n (x := a0) (pc := 88) dX3_placeUnit_88 rfl ?_
  refine G_getR (j := 1) (pc := 89) dX3_placeUnit_89 rfl z_CLX3 (by decide) z_wX3_51 (by decide) (fun x27 => ?_)
  refine G_getR (j := 3) (pc := 92) dX3_placeUnit_92 rfl z_CLX10 (by decide) z_wX3_170 (by decide) (fun x28 => ?_)
  refine G_iload_n (x := a1) (pc := 95) dX3_placeUnit_95 rfl ?_
  refine G_callVI (as := [vI a1]) (st := []) (c := 7) (bc2 := 0) (bs2 := 0) (pc := 96) dX3_placeUnit_96 z_mX7_get z_vX7_get z_wX3_98 (gX7_get hst fu s24 x28 a1) rfl rfl (by decide) rfl rfl ⟨by decide, by decide, by decide, by decide, Nat.le_of_ble_eq_true rfl⟩ rfl (fun x30 s29 => ?_)
  refine G_istore (lv' := [vR a0, vI a1, vI a2, vI a3, vI x17, vI a3, vI x26, vI x30]) (pc := 99) dX3_placeUnit_99 rfl ?_
  refine G_fg (lv2 := [vR a0, vU, vU, vU, vI x17, vI a3, vI x26, vI x30]) ⟨Or.inr rfl, Or.inl rfl, Or.inl rfl, Or.inl rfl, Or.inr rfl, Or.inr rfl, Or.inr rfl, Or.inr rfl, trivial⟩ ?_
  refine gX3_placeUnit_L101 hst fu a0 x17 x26 _ (fun s39 => ?_) fu s29 a3 x30
  exact G_vret (pc := 151) dX3_placeUnit_151
def fX0_padBehind (fu : Nat) (s : z_M) (a0 : Int) (a1 : Int) : z_O := if z_ob a0 0 then z_let (z_gr a0 4) (fun x1 => if z_ob x1 7 then z_bI (fX7_get fu s x1 a1) (fun x3 s2 => if z_ob a0 0 then z_let (z_gr a0 4) (fun x4 => if z_ob x4 7 then z_bI (fX7_get fu s2 x4 a1) (fun x6 s5 => if 2 ≠ 0 then z_let (z_w (Int.tdiv x6 2)) (fun x7 => z_let (z_w (x3 - x7)) (fun x8 => if z_ob a0 0 then z_let (z_gr a0 6) (fun x9 => if z_ob x9 7 then z_bI (fX7_get fu s5 x9 a1) (fun x11 s10 => z_let (z_w (x8 - x11)) (fun x12 => some (vI x12, s10))) else none) else none)) else none) else none) else none) else none) else none
theorem gX0_padBehind {l : Launch} {K : z_K} (hst : l.stackTraces = false) (fu : Nat) (s : z_M) (a0 : Int) (a1 : Int) : z_D l K mX0_padBehind 1 21 0 0 [vR a0, vI a1] s (fX0_padBehind fu s a0 a1) := by
  refine z_D_of (lv := [vR a0, vI a1]) hst z_mX0_padBehind rfl ?_ (Nat.le_of_ble_eq_true rfl) rfl
  unfold fX0_padBehind
  refine G_aload_n (x := a0) (pc := 0) dX0_padBehind_0 rfl ?_
  refine G_getR (j := 4) (pc := 1) dX0_padBehind_1 rfl z_CLX0 (by decide) z_wX0_26 (by decide) (fun x1 => ?_)
  refine G_iload_n (x := a1) (pc := 4) dX0_padBehind_4 rfl ?_
  refine G_callVI (as := [vI a1]) (st := []) (c := 7) (bc2 := 0) (bs2 := 0) (pc := 5) dX0_padBehind_5 z_mX7_get z_vX7_get z_wX0_49 (gX7_get hst fu s x1 a1) rfl rfl (by decide) rfl rfl ⟨by decide, by decide, by decide, by decide, Nat.le_of_ble_eq_true rfl⟩ rfl (fun x3 s2 => ?_)
  refine G_aload_n (x := a0) (pc := 8) dX0_padBehind_8 rfl ?_
  refine G_getR (j := 4) (pc := 9) dX0_padBehind_9 rfl z_CLX0 (by decide) z_wX0_26 (by decide) (fun x4 => ?_)
  refine G_iload_n (x := a1) (pc := 12) dX0_padBehind_12 rfl ?_
  refine G_callVI (as := [vI a1]) (st := [vI x3]) (c := 7) (bc2 := 0) (bs2 := 0) (pc := 13) dX0_padBehind_13 z_mX7_get z_vX7_get z_wX0_49 (gX7_get hst fu s2 x4 a1) rfl rfl (by decide) rfl rfl ⟨by decide, by decide, by decide, by decide, Nat.le_of_ble_eq_true rfl⟩ rfl (fun x6 s5 => ?_)
  refine G_iconst (pc := 16) dX0_padBehind_16 ?_
  refine G_idiv (pc := 17) dX0_padBehind_17 (fun x7 => ?_)
  refine G_isub (pc := 18) dX0_padBehind_18 (fun x8 => ?_)
  refine G_aload_n (x := a0) (pc := 19) dX0_padBehind_19 rfl ?_
  refine G_getR (j := 6) (pc := 20) dX0_padBehind_20 rfl z_CLX0 (by decide) z_wX0_32 (by decide) (fun x9 => ?_)
  refine G_iload_n (x := a1) (pc := 23) dX0_padBehind_23 rfl ?_
  refine G_callVI (as := [vI a1]) (st := [vI x8]) (c := 7) (bc2 := 0) (bs2 := 0) (pc := 24) dX0_padBehind_24 z_mX7_get z_vX7_get z_wX0_49 (gX7_get hst fu s5 x9 a1) rfl rfl (by decide) rfl rfl ⟨by decide, by decide, by decide, by decide, Nat.le_of_ble_eq_true rfl⟩ rfl (fun x11 s10 => ?_)
  refine G_isub (pc := 27) dX0_padBehind_27 (fun x12 => ?_)
  exact G_iret (pc := 28) dX0_padBehind_28
def fX3_placeUnits_J293 (fu : Nat) (s : z_M) (a0 : Int) (a1 : Int) (a4 : Int) (a5 : Int) (a6 : Int) (a7 : Int) (a8 : Int) (r : z_M → Int → Int → Int → Int → z_O) (k : z_M → z_O) : z_O := z_let (z_w (a8 + 1)) (fun x40 => r s a5 a6 a7 x40)
theorem gX3_placeUnits_J293 {l : Launch} {K : z_K} (hst : l.stackTraces = false) (fu : Nat) (s : z_M) (a0 : Int) (a1 : Int) (a4 : Int) (a5 : Int) (a6 : Int) (a7 : Int) (a8 : Int) (r : z_M → Int → Int → Int → Int → z_O) (k : z_M → z_O) (hr : ∀ (s : z_M) (a5 : Int) (a6 : Int) (a7 : Int) (a8 : Int), G l K mX3_placeUnits 4 90 0 0 67 [vR a0, vI a1, vU, vU, vI a4, vI a5, vI a6, vI a7, vI a8, vU, vU] [] s (r s a5 a6 a7 a8)) (hk : ∀ (s : z_M), G l K mX3_placeUnits 4 90 0 0 299 [vU, vU, vU, vU, vU, vU, vU, vU, vU, vU, vU] [] s (k s)) : G l K mX3_placeUnits 4 90 0 0 293 [vR a0, vI a1, vU, vU, vI a4, vI a5, vI a6, vI a7, vI a8, vU, vU] [] s (fX3_placeUnits_J293 fu s a0 a1 a4 a5 a6 a7 a8 r k) := by
  unfold fX3_placeUnits_J293
  refine G_iinc (x := a8) (g := fun x40 => [vR a0, vI a1, vU, vU, vI a4, vI a5, vI a6, vI a7, vI x40, vU, vU]) (pc := 293) dX3_placeUnits_293 rfl (fun _ => rfl) (fun x40 => ?_)
  refine G_goto (tgt := 67) (pc := 296) dX3_placeUnits_296 ?_
  exact hr s a5 a6 a7 x40
def fX3_placeUnits_J287 (fu : Nat) (s : z_M) (a0 : Int) (a1 : Int) (a4 : Int) (a5 : Int) (a6 : Int) (a8 : Int) (t0 : Int) (t1 : Int) (r : z_M → Int → Int → Int → Int → z_O) (k : z_M → z_O) : z_O := z_let (z_w (t0 + t1)) (fun x41 => z_let (z_w (a5 + (-1))) (fun x42 => fX3_placeUnits_J293 fu s a0 a1 a4 x42 a6 x41 a8 (fun w v5 v6 v7 v8 => r w v5 v6 v7 v8) k))
theorem gX3_placeUnits_J287 {l : Launch} {K : z_K} (hst : l.stackTraces = false) (fu : Nat) (s : z_M) (a0 : Int) (a1 : Int) (a4 : Int) (a5 : Int) (a6 : Int) (a8 : Int) (t0 : Int) (t1 : Int) (r : z_M → Int → Int → Int → Int → z_O) (k : z_M → z_O) (hr : ∀ (s : z_M) (a5 : Int) (a6 : Int) (a7 : Int) (a8 : Int), G l K mX3_placeUnits 4 90 0 0 67 [vR a0, vI a1, vU, vU, vI a4, vI a5, vI a6, vI a7, vI a8, vU, vU] [] s (r s a5 a6 a7 a8)) (hk : ∀ (s : z_M), G l K mX3_placeUnits 4 90 0 0 299 [vU, vU, vU, vU, vU, vU, vU, vU, vU, vU, vU] [] s (k s)) : G l K mX3_placeUnits 4 90 0 0 287 [vR a0, vI a1, vU, vU, vI a4, vI a5, vI a6, vU, vI a8, vU, vU] [vI t1, vI t0] s (fX3_placeUnits_J287 fu s a0 a1 a4 a5 a6 a8 t0 t1 r k) := by
  unfold fX3_placeUnits_J287
  refine G_iadd (pc := 287) dX3_placeUnits_287 (fun x41 => ?_)
  refine G_istore (lv' := [vR a0, vI a1, vU, vU, vI a4, vI a5, vI a6, vI x41, vI a8, vU, vU]) (pc := 288) dX3_placeUnits_288 rfl ?_
  refine G_iinc (x := a5) (g := fun x42 => [vR a0, vI a1, vU, vU, vI a4, vI x42, vI a6, vI x41, vI a8, vU, vU]) (pc := 290) dX3_placeUnits_290 rfl (fun _ => rfl) (fun x42 => ?_)
  exact gX3_placeUnits_J293 hst fu s a0 a1 a4 x42 a6 x41 a8 _ _ (fun w v5 v6 v7 v8 => hr w v5 v6 v7 v8) hk
def fX3_placeUnits_J262 (fu : Nat) (s : z_M) (a0 : Int) (a1 : Int) (a4 : Int) (a5 : Int) (a6 : Int) (a7 : Int) (a8 : Int) (r : z_M → Int → Int → Int → Int → z_O) (k : z_M → z_O) : z_O := if z_ob a0 3 then z_bI (fX3_hasGapBehind fu s a0 a8) (fun x39 s38 => if (x39 : Int) = 0 then (fX3_placeUnits_J293 fu s38 a0 a1 a4 a5 a6 a7 a8 (fun w v5 v6 v7 v8 => r w v5 v6 v7 v8) k) else (if (a5 : Int) ≤ 0 then (fX3_placeUnits_J287 fu s38 a0 a1 a4 a5 a6 a8 a7 a4 (fun w v5 v6 v7 v8 => r w v5 v6 v7 v8) k) else (z_let (z_w (a4 + 1)) (fun x43 => fX3_placeUnits_J287 fu s38 a0 a1 a4 a5 a6 a8 a7 x43 (fun w v5 v6 v7 v8 => r w v5 v6 v7 v8) k)))) else none
theorem gX3_placeUnits_J262 {l : Launch} {K : z_K} (hst : l.stackTraces = false) (fu : Nat) (s : z_M) (a0 : Int) (a1 : Int) (a4 : Int) (a5 : Int) (a6 : Int) (a7 : Int) (a8 : Int) (r : z_M → Int → Int → Int → Int → z_O) (k : z_M → z_O) (hr : ∀ (s : z_M) (a5 : Int) (a6 : Int) (a7 : Int) (a8 : Int), G l K mX3_placeUnits 4 90 0 0 67 [vR a0, vI a1, vU, vU, vI a4, vI a5, vI a6, vI a7, vI a8, vU, vU] [] s (r s a5 a6 a7 a8)) (hk : ∀ (s : z_M), G l K mX3_placeUnits 4 90 0 0 299 [vU, vU, vU, vU, vU, vU, vU, vU, vU, vU, vU] [] s (k s)) : G l K mX3_placeUnits 4 90 0 0 262 [vR a0, vI a1, vU, vU, vI a4, vI a5, vI a6, vI a7, vI a8, vU, vU] [] s (fX3_placeUnits_J262 fu s a0 a1 a4 a5 a6 a7 a8 r k) := by
  unfold fX3_placeUnits_J262
  refine G_aload_n (x := a0) (pc := 262) dX3_placeUnits_262 rfl ?_
  refine G_iload (x := a8) (pc := 263) dX3_placeUnits_263 rfl ?_
  refine G_callVI (as := [vI a8]) (st := []) (c := 3) (bc2 := 0) (bs2 := 0) (pc := 265) dX3_placeUnits_265 z_mX3_hasGapBehind z_vX3_hasGapBehind z_wX3_128 (gX3_hasGapBehind hst fu s a0 a8) rfl rfl (by decide) rfl rfl ⟨by decide, by decide, by decide, by decide, Nat.le_of_ble_eq_true rfl⟩ rfl (fun x39 s38 => ?_)
  refine G_if_eq (tgt := 293) (pc := 268) dX3_placeUnits_268 ?_ ?_
  · exact gX3_placeUnits_J293 hst fu s38 a0 a1 a4 a5 a6 a7 a8 _ _ (fun w v5 v6 v7 v8 => hr w v5 v6 v7 v8) hk
  · refine G_iload (x := a7) (pc := 271) dX3_placeUnits_271 rfl ?_
    refine G_iload (x := a5) (pc := 273) dX3_placeUnits_273 rfl ?_
    refine G_if_le (tgt := 285) (pc := 275) dX3_placeUnits_275 ?_ ?_
    · refine G_iload (x := a4) (pc := 285) dX3_placeUnits_285 rfl ?_
      refine G_fg (lv2 := [vR a0, vI a1, vU, vU, vI a4, vI a5, vI a6, vU, vI a8, vU, vU]) ⟨Or.inr rfl, Or.inr rfl, Or.inl rfl, Or.inl rfl, Or.inr rfl, Or.inr rfl, Or.inr rfl, Or.inl rfl, Or.inr rfl, Or.inl rfl, Or.inl rfl, trivial⟩ ?_
      exact gX3_placeUnits_J287 hst fu s38 a0 a1 a4 a5 a6 a8 a7 a4 _ _ (fun w v5 v6 v7 v8 => hr w v5 v6 v7 v8) hk
    · refine G_iload (x := a4) (pc := 278) dX3_placeUnits_278 rfl ?_
      refine G_iconst (pc := 280) dX3_placeUnits_280 ?_
      refine G_iadd (pc := 281) dX3_placeUnits_281 (fun x43 => ?_)
      refine G_goto (tgt := 287) (pc := 282) dX3_placeUnits_282 ?_
      refine G_fg (lv2 := [vR a0, vI a1, vU, vU, vI a4, vI a5, vI a6, vU, vI a8, vU, vU]) ⟨Or.inr rfl, Or.inr rfl, Or.inl rfl, Or.inl rfl, Or.inr rfl, Or.inr rfl, Or.inr rfl, Or.inl rfl, Or.inr rfl, Or.inl rfl, Or.inl rfl, trivial⟩ ?_
      exact gX3_placeUnits_J287 hst fu s38 a0 a1 a4 a5 a6 a8 a7 x43 _ _ (fun w v5 v6 v7 v8 => hr w v5 v6 v7 v8) hk
def fX3_placeUnits_J184 (fu : Nat) (s : z_M) (a0 : Int) (a1 : Int) (a4 : Int) (a5 : Int) (a6 : Int) (a8 : Int) (a9 : Int) (a10 : Int) (t0 : Int) (t1 : Int) (r : z_M → Int → Int → Int → Int → z_O) (k : z_M → z_O) : z_O := z_let (z_w (t0 + t1)) (fun x27 => if z_ob a0 3 then z_bN (fX3_placeUnit fu s a0 a8 a1 x27) (fun s28 => if z_ob a0 3 then z_let (z_gr a0 2) (fun x29 => if z_ob x29 5 then z_bI (fX5_widthOf fu s28 x29 a8) (fun x31 s30 => if z_ob a0 3 then z_let (z_gr a0 2) (fun x32 => if z_ob x32 5 then z_bI (fX5_spaceOf fu s30 x32 a8) (fun x34 s33 => z_let (z_w (x31 + x34)) (fun x35 => z_let (z_w (x35 - a10)) (fun x36 => z_let (z_w (x27 + x36)) (fun x37 => if (a9 : Int) = 0 then (fX3_placeUnits_J262 fu s33 a0 a1 a4 a5 a6 x37 a8 (fun w v5 v6 v7 v8 => r w v5 v6 v7 v8) k) else (if z_ob a0 3 then z_let (z_gr a0 5) (fun x44 => if z_ob x44 0 then z_let (z_gr x44 2) (fun x45 => if z_ob x45 7 then z_bI (fX7_get fu s33 x45 a6) (fun x47 s46 => if (x47 : Int) ≠ a8 then (fX3_placeUnits_J262 fu s46 a0 a1 a4 a5 a6 x37 a8 (fun w v5 v6 v7 v8 => r w v5 v6 v7 v8) k) else (if z_ob a0 3 then z_let (z_gr a0 5) (fun x48 => if z_ob x48 0 then z_bI (fX0_padBehind fu s46 x48 a6) (fun x50 s49 => z_let (z_w (x37 + x50)) (fun x51 => z_let (z_w (a6 + 1)) (fun x52 => fX3_placeUnits_J262 fu s49 a0 a1 a4 a5 x52 x51 a8 (fun w v5 v6 v7 v8 => r w v5 v6 v7 v8) k))) else none) else none)) else none) else none) else none))))) else none) else none) else none) else none) else none)
theorem gX3_placeUnits_J184 {l : Launch} {K : z_K} (hst : l.stackTraces = false) (fu : Nat) (s : z_M) (a0 : Int) (a1 : Int) (a4 : Int) (a5 : Int) (a6 : Int) (a8 : Int) (a9 : Int) (a10 : Int) (t0 : Int) (t1 : Int) (r : z_M → Int → Int → Int → Int → z_O) (k : z_M → z_O) (hr : ∀ (s : z_M) (a5 : Int) (a6 : Int) (a7 : Int) (a8 : Int), G l K mX3_placeUnits 4 90 0 0 67 [vR a0, vI a1, vU, vU, vI a4, vI a5, vI a6, vI a7, vI a8, vU, vU] [] s (r s a5 a6 a7 a8)) (hk : ∀ (s : z_M), G l K mX3_placeUnits 4 90 0 0 299 [vU, vU, vU, vU, vU, vU, vU, vU, vU, vU, vU] [] s (k s)) : G l K mX3_placeUnits 4 90 0 0 184 [vR a0, vI a1, vU, vU, vI a4, vI a5, vI a6, vU, vI a8, vI a9, vI a10] [vI t1, vI t0] s (fX3_placeUnits_J184 fu s a0 a1 a4 a5 a6 a8 a9 a10 t0 t1 r k) := by
  unfold fX3_placeUnits_J184
  refine G_iadd (pc := 184) dX3_placeUnits_184 (fun x27 => ?_)
  refine G_istore (lv' := [vR a0, vI a1, vU, vU, vI a4, vI a5, vI a6, vI x27, vI a8, vI a9, vI a10]) (pc := 185) dX3_placeUnits_185 rfl ?_
  refine G_aload_n (x := a0) (pc := 187) dX3_placeUnits_187 rfl ?_
  refine G_iload (x := a8) (pc := 188) dX3_placeUnits_188 rfl ?_
  refine G_iload_n (x := a1) (pc := 190) dX3_placeUnits_190 rfl ?_
  refine G_iload (x := x27) (pc := 191) dX3_placeUnits_191 rfl ?_
  refine G_callVN (as := [vI a8, vI a1, vI x27]) (st := []) (c := 3) (bc2 := 0) (bs2 := 0) (pc := 193) dX3_placeUnits_193 z_mX3_placeUnit z_vX3_placeUnit z_wX3_154 (gX3_placeUnit hst fu s a0 a8 a1 x27) rfl rfl (by decide) rfl rfl ⟨by decide, by decide, by decide, by decide, Nat.le_of_ble_eq_true rfl⟩ rfl (fun s28 => ?_)
  refine G_iload (x := x27) (pc := 196) dX3_placeUnits_196 rfl ?_
  refine G_aload_n (x := a0) (pc := 198) dX3_placeUnits_198 rfl ?_
  refine G_getR (j := 2) (pc := 199) dX3_placeUnits_199 rfl z_CLX3 (by decide) z_wX3_55 (by decide) (fun x29 => ?_)
  refine G_iload (x := a8) (pc := 202) dX3_placeUnits_202 rfl ?_
  refine G_callVI (as := [vI a8]) (st := [vI x27]) (c := 5) (bc2 := 0) (bs2 := 0) (pc := 204) dX3_placeUnits_204 z_mX5_widthOf z_vX5_widthOf z_wX3_158 (gX5_widthOf hst fu s28 x29 a8) rfl rfl (by decide) rfl rfl ⟨by decide, by decide, by decide, by decide, Nat.le_of_ble_eq_true rfl⟩ rfl (fun x31 s30 => ?_)
  refine G_aload_n (x := a0) (pc := 207) dX3_placeUnits_207 rfl ?_
  refine G_getR (j := 2) (pc := 208) dX3_placeUnits_208 rfl z_CLX3 (by decide) z_wX3_55 (by decide) (fun x32 => ?_)
  refine G_iload (x := a8) (pc := 211) dX3_placeUnits_211 rfl ?_
  refine G_callVI (as := [vI a8]) (st := [vI x31, vI x27]) (c := 5) (bc2 := 0) (bs2 := 0) (pc := 213) dX3_placeUnits_213 z_mX5_spaceOf z_vX5_spaceOf z_wX3_145 (gX5_spaceOf hst fu s30 x32 a8) rfl rfl (by decide) rfl rfl ⟨by decide, by decide, by decide, by decide, Nat.le_of_ble_eq_true rfl⟩ rfl (fun x34 s33 => ?_)
  refine G_iadd (pc := 216) dX3_placeUnits_216 (fun x35 => ?_)
  refine G_iload (x := a10) (pc := 217) dX3_placeUnits_217 rfl ?_
  refine G_isub (pc := 219) dX3_placeUnits_219 (fun x36 => ?_)
  refine G_iadd (pc := 220) dX3_placeUnits_220 (fun x37 => ?_)
  refine G_istore (lv' := [vR a0, vI a1, vU, vU, vI a4, vI a5, vI a6, vI x37, vI a8, vI a9, vI a10]) (pc := 221) dX3_placeUnits_221 rfl ?_
  refine G_iload (x := a9) (pc := 223) dX3_placeUnits_223 rfl ?_
  refine G_if_eq (tgt := 262) (pc := 225) dX3_placeUnits_225 ?_ ?_
  · refine G_fg (lv2 := [vR a0, vI a1, vU, vU, vI a4, vI a5, vI a6, vI x37, vI a8, vU, vU]) ⟨Or.inr rfl, Or.inr rfl, Or.inl rfl, Or.inl rfl, Or.inr rfl, Or.inr rfl, Or.inr rfl, Or.inr rfl, Or.inr rfl, Or.inl rfl, Or.inl rfl, trivial⟩ ?_
    exact gX3_placeUnits_J262 hst fu s33 a0 a1 a4 a5 a6 x37 a8 _ _ (fun w v5 v6 v7 v8 => hr w v5 v6 v7 v8) hk
  · refine G_aload_n (x := a0) (pc := 228) dX3_placeUnits_228 rfl ?_
    refine G_getR (j := 5) (pc := 229) dX3_placeUnits_229 rfl z_CLX3 (by decide) z_wX3_71 (by decide) (fun x44 => ?_)
    refine G_getR (j := 2) (pc := 232) dX3_placeUnits_232 rfl z_CLX0 (by decide) z_wX3_161 (by decide) (fun x45 => ?_)
    refine G_iload (x := a6) (pc := 235) dX3_placeUnits_235 rfl ?_
    refine G_callVI (as := [vI a6]) (st := []) (c := 7) (bc2 := 0) (bs2 := 0) (pc := 237) dX3_placeUnits_237 z_mX7_get z_vX7_get z_wX3_98 (gX7_get hst fu s33 x45 a6) rfl rfl (by decide) rfl rfl ⟨by decide, by decide, by decide, by decide, Nat.le_of_ble_eq_true rfl⟩ rfl (fun x47 s46 => ?_)
    refine G_iload (x := a8) (pc := 240) dX3_placeUnits_240 rfl ?_
    refine G_icmp_ne (tgt := 262) (pc := 242) dX3_placeUnits_242 ?_ ?_
    · refine G_fg (lv2 := [vR a0, vI a1, vU, vU, vI a4, vI a5, vI a6, vI x37, vI a8, vU, vU]) ⟨Or.inr rfl, Or.inr rfl, Or.inl rfl, Or.inl rfl, Or.inr rfl, Or.inr rfl, Or.inr rfl, Or.inr rfl, Or.inr rfl, Or.inl rfl, Or.inl rfl, trivial⟩ ?_
      exact gX3_placeUnits_J262 hst fu s46 a0 a1 a4 a5 a6 x37 a8 _ _ (fun w v5 v6 v7 v8 => hr w v5 v6 v7 v8) hk
    · refine G_iload (x := x37) (pc := 245) dX3_placeUnits_245 rfl ?_
      refine G_aload_n (x := a0) (pc := 247) dX3_placeUnits_247 rfl ?_
      refine G_getR (j := 5) (pc := 248) dX3_placeUnits_248 rfl z_CLX3 (by decide) z_wX3_71 (by decide) (fun x48 => ?_)
      refine G_iload (x := a6) (pc := 251) dX3_placeUnits_251 rfl ?_
      refine G_callVI (as := [vI a6]) (st := [vI x37]) (c := 0) (bc2 := 0) (bs2 := 0) (pc := 253) dX3_placeUnits_253 z_mX0_padBehind z_vX0_padBehind z_wX3_164 (gX0_padBehind hst fu s46 x48 a6) rfl rfl (by decide) rfl rfl ⟨by decide, by decide, by decide, by decide, Nat.le_of_ble_eq_true rfl⟩ rfl (fun x50 s49 => ?_)
      refine G_iadd (pc := 256) dX3_placeUnits_256 (fun x51 => ?_)
      refine G_istore (lv' := [vR a0, vI a1, vU, vU, vI a4, vI a5, vI a6, vI x51, vI a8, vI a9, vI a10]) (pc := 257) dX3_placeUnits_257 rfl ?_
      refine G_iinc (x := a6) (g := fun x52 => [vR a0, vI a1, vU, vU, vI a4, vI a5, vI x52, vI x51, vI a8, vI a9, vI a10]) (pc := 259) dX3_placeUnits_259 rfl (fun _ => rfl) (fun x52 => ?_)
      refine G_fg (lv2 := [vR a0, vI a1, vU, vU, vI a4, vI a5, vI x52, vI x51, vI a8, vU, vU]) ⟨Or.inr rfl, Or.inr rfl, Or.inl rfl, Or.inl rfl, Or.inr rfl, Or.inr rfl, Or.inr rfl, Or.inr rfl, Or.inr rfl, Or.inl rfl, Or.inl rfl, trivial⟩ ?_
      exact gX3_placeUnits_J262 hst fu s49 a0 a1 a4 a5 x52 x51 a8 _ _ (fun w v5 v6 v7 v8 => hr w v5 v6 v7 v8) hk
def fX3_placeUnits_J183 (fu : Nat) (s : z_M) (a0 : Int) (a1 : Int) (a4 : Int) (a5 : Int) (a6 : Int) (a8 : Int) (a9 : Int) (a10 : Int) (t0 : Int) (r : z_M → Int → Int → Int → Int → z_O) (k : z_M → z_O) : z_O := fX3_placeUnits_J184 fu s a0 a1 a4 a5 a6 a8 a9 a10 t0 0 (fun w v5 v6 v7 v8 => r w v5 v6 v7 v8) k
theorem gX3_placeUnits_J183 {l : Launch} {K : z_K} (hst : l.stackTraces = false) (fu : Nat) (s : z_M) (a0 : Int) (a1 : Int) (a4 : Int) (a5 : Int) (a6 : Int) (a8 : Int) (a9 : Int) (a10 : Int) (t0 : Int) (r : z_M → Int → Int → Int → Int → z_O) (k : z_M → z_O) (hr : ∀ (s : z_M) (a5 : Int) (a6 : Int) (a7 : Int) (a8 : Int), G l K mX3_placeUnits 4 90 0 0 67 [vR a0, vI a1, vU, vU, vI a4, vI a5, vI a6, vI a7, vI a8, vU, vU] [] s (r s a5 a6 a7 a8)) (hk : ∀ (s : z_M), G l K mX3_placeUnits 4 90 0 0 299 [vU, vU, vU, vU, vU, vU, vU, vU, vU, vU, vU] [] s (k s)) : G l K mX3_placeUnits 4 90 0 0 183 [vR a0, vI a1, vU, vU, vI a4, vI a5, vI a6, vU, vI a8, vI a9, vI a10] [vI t0] s (fX3_placeUnits_J183 fu s a0 a1 a4 a5 a6 a8 a9 a10 t0 r k) := by
  unfold fX3_placeUnits_J183
  refine G_iconst (pc := 183) dX3_placeUnits_183 ?_
  exact gX3_placeUnits_J184 hst fu s a0 a1 a4 a5 a6 a8 a9 a10 t0 0 _ _ (fun w v5 v6 v7 v8 => hr w v5 v6 v7 v8) hk
def fX3_placeUnits_J138 (fu : Nat) (s : z_M) (a0 : Int) (a1 : Int) (a4 : Int) (a5 : Int) (a6 : Int) (a7 : Int) (a8 : Int) (a9 : Int) (t0 : Int) (r : z_M → Int → Int → Int → Int → z_O) (k : z_M → z_O) : z_O := z_let (z_w (a7 + t0)) (fun x26 => if (a9 : Int) = 0 then (fX3_placeUnits_J183 fu s a0 a1 a4 a5 a6 a8 a9 t0 x26 (fun w v5 v6 v7 v8 => r w v5 v6 v7 v8) k) else (if z_ob a0 3 then z_let (z_gr a0 5) (fun x53 => if z_ob x53 0 then z_let (z_gr x53 1) (fun x54 => if z_ob x54 7 then z_bI (fX7_get fu s x54 a6) (fun x56 s55 => if (x56 : Int) ≠ a8 then (fX3_placeUnits_J183 fu s55 a0 a1 a4 a5 a6 a8 a9 t0 x26 (fun w v5 v6 v7 v8 => r w v5 v6 v7 v8) k) else (if z_ob a0 3 then z_let (z_gr a0 5) (fun x57 => if z_ob x57 0 then z_bI (fX0_padAhead fu s55 x57 a6) (fun x59 s58 => fX3_placeUnits_J184 fu s58 a0 a1 a4 a5 a6 a8 a9 t0 x26 x59 (fun w v5 v6 v7 v8 => r w v5 v6 v7 v8) k) else none) else none)) else none) else none) else none))
theorem gX3_placeUnits_J138 {l : Launch} {K : z_K} (hst : l.stackTraces = false) (fu : Nat) (s : z_M) (a0 : Int) (a1 : Int) (a4 : Int) (a5 : Int) (a6 : Int) (a7 : Int) (a8 : Int) (a9 : Int) (t0 : Int) (r : z_M → Int → Int → Int → Int → z_O) (k : z_M → z_O) (hr : ∀ (s : z_M) (a5 : Int) (a6 : Int) (a7 : Int) (a8 : Int), G l K mX3_placeUnits 4 90 0 0 67 [vR a0, vI a1, vU, vU, vI a4, vI a5, vI a6, vI a7, vI a8, vU, vU] [] s (r s a5 a6 a7 a8)) (hk : ∀ (s : z_M), G l K mX3_placeUnits 4 90 0 0 299 [vU, vU, vU, vU, vU, vU, vU, vU, vU, vU, vU] [] s (k s)) : G l K mX3_placeUnits 4 90 0 0 138 [vR a0, vI a1, vU, vU, vI a4, vI a5, vI a6, vI a7, vI a8, vI a9, vU] [vI t0] s (fX3_placeUnits_J138 fu s a0 a1 a4 a5 a6 a7 a8 a9 t0 r k) := by
  unfold fX3_placeUnits_J138
  refine G_istore (lv' := [vR a0, vI a1, vU, vU, vI a4, vI a5, vI a6, vI a7, vI a8, vI a9, vI t0]) (pc := 138) dX3_placeUnits_138 rfl ?_
  refine G_iload (x := a7) (pc := 140) dX3_placeUnits_140 rfl ?_
  refine G_iload (x := t0) (pc := 142) dX3_placeUnits_142 rfl ?_
  refine G_iadd (pc := 144) dX3_placeUnits_144 (fun x26 => ?_)
  refine G_istore (lv' := [vR a0, vI a1, vU, vU, vI a4, vI a5, vI a6, vI x26, vI a8, vI a9, vI t0]) (pc := 145) dX3_placeUnits_145 rfl ?_
  refine G_iload (x := x26) (pc := 147) dX3_placeUnits_147 rfl ?_
  refine G_iload (x := a9) (pc := 149) dX3_placeUnits_149 rfl ?_
  refine G_if_eq (tgt := 183) (pc := 151) dX3_placeUnits_151 ?_ ?_
  · refine G_fg (lv2 := [vR a0, vI a1, vU, vU, vI a4, vI a5, vI a6, vU, vI a8, vI a9, vI t0]) ⟨Or.inr rfl, Or.inr rfl, Or.inl rfl, Or.inl rfl, Or.inr rfl, Or.inr rfl, Or.inr rfl, Or.inl rfl, Or.inr rfl, Or.inr rfl, Or.inr rfl, trivial⟩ ?_
    exact gX3_placeUnits_J183 hst fu s a0 a1 a4 a5 a6 a8 a9 t0 x26 _ _ (fun w v5 v6 v7 v8 => hr w v5 v6 v7 v8) hk
  · refine G_aload_n (x := a0) (pc := 154) dX3_placeUnits_154 rfl ?_
    refine G_getR (j := 5) (pc := 155) dX3_placeUnits_155 rfl z_CLX3 (by decide) z_wX3_71 (by decide) (fun x53 => ?_)
    refine G_getR (j := 1) (pc := 158) dX3_placeUnits_158 rfl z_CLX0 (by decide) z_wX3_148 (by decide) (fun x54 => ?_)
    refine G_iload (x := a6) (pc := 161) dX3_placeUnits_161 rfl ?_
    refine G_callVI (as := [vI a6]) (st := [vI x26]) (c := 7) (bc2 := 0) (bs2 := 0) (pc := 163) dX3_placeUnits_163 z_mX7_get z_vX7_get z_wX3_98 (gX7_get hst fu s x54 a6) rfl rfl (by decide) rfl rfl ⟨by decide, by decide, by decide, by decide, Nat.le_of_ble_eq_true rfl⟩ rfl (fun x56 s55 => ?_)
    refine G_iload (x := a8) (pc := 166) dX3_placeUnits_166 rfl ?_
    refine G_icmp_ne (tgt := 183) (pc := 168) dX3_placeUnits_168 ?_ ?_
    · refine G_fg (lv2 := [vR a0, vI a1, vU, vU, vI a4, vI a5, vI a6, vU, vI a8, vI a9, vI t0]) ⟨Or.inr rfl, Or.inr rfl, Or.inl rfl, Or.inl rfl, Or.inr rfl, Or.inr rfl, Or.inr rfl, Or.inl rfl, Or.inr rfl, Or.inr rfl, Or.inr rfl, trivial⟩ ?_
      exact gX3_placeUnits_J183 hst fu s55 a0 a1 a4 a5 a6 a8 a9 t0 x26 _ _ (fun w v5 v6 v7 v8 => hr w v5 v6 v7 v8) hk
    · refine G_aload_n (x := a0) (pc := 171) dX3_placeUnits_171 rfl ?_
      refine G_getR (j := 5) (pc := 172) dX3_placeUnits_172 rfl z_CLX3 (by decide) z_wX3_71 (by decide) (fun x57 => ?_)
      refine G_iload (x := a6) (pc := 175) dX3_placeUnits_175 rfl ?_
      refine G_callVI (as := [vI a6]) (st := [vI x26]) (c := 0) (bc2 := 0) (bs2 := 0) (pc := 177) dX3_placeUnits_177 z_mX0_padAhead z_vX0_padAhead z_wX3_151 (gX0_padAhead hst fu s55 x57 a6) rfl rfl (by decide) rfl rfl ⟨by decide, by decide, by decide, by decide, Nat.le_of_ble_eq_true rfl⟩ rfl (fun x59 s58 => ?_)
      refine G_goto (tgt := 184) (pc := 180) dX3_placeUnits_180 ?_
      refine G_fg (lv2 := [vR a0, vI a1, vU, vU, vI a4, vI a5, vI a6, vU, vI a8, vI a9, vI t0]) ⟨Or.inr rfl, Or.inr rfl, Or.inl rfl, Or.inl rfl, Or.inr rfl, Or.inr rfl, Or.inr rfl, Or.inl rfl, Or.inr rfl, Or.inr rfl, Or.inr rfl, trivial⟩ ?_
      exact gX3_placeUnits_J184 hst fu s58 a0 a1 a4 a5 a6 a8 a9 t0 x26 x59 _ _ (fun w v5 v6 v7 v8 => hr w v5 v6 v7 v8) hk
def fX3_placeUnits_J107 (fu : Nat) (s : z_M) (a0 : Int) (a1 : Int) (a4 : Int) (a5 : Int) (a6 : Int) (a7 : Int) (a8 : Int) (t0 : Int) (r : z_M → Int → Int → Int → Int → z_O) (k : z_M → z_O) : z_O := if z_ob a0 3 then z_let (z_gr a0 1) (fun x22 => if z_ob x22 10 then z_let (z_gr x22 2) (fun x23 => if z_ob x23 7 then z_bI (fX7_get fu s x23 a8) (fun x25 s24 => if (x25 : Int) ≠ 4 then (fX3_placeUnits_J138 fu s24 a0 a1 a4 a5 a6 a7 a8 t0 0 (fun w v5 v6 v7 v8 => r w v5 v6 v7 v8) k) else (if z_ob a0 3 then z_let (z_gr a0 2) (fun x60 => if z_ob x60 5 then z_bI (fX5_spaceOf fu s24 x60 a8) (fun x62 s61 => fX3_placeUnits_J138 fu s61 a0 a1 a4 a5 a6 a7 a8 t0 x62 (fun w v5 v6 v7 v8 => r w v5 v6 v7 v8) k) else none) else none)) else none) else none) else none
theorem gX3_placeUnits_J107 {l : Launch} {K : z_K} (hst : l.stackTraces = false) (fu : Nat) (s : z_M) (a0 : Int) (a1 : Int) (a4 : Int) (a5 : Int) (a6 : Int) (a7 : Int) (a8 : Int) (t0 : Int) (r : z_M → Int → Int → Int → Int → z_O) (k : z_M → z_O) (hr : ∀ (s : z_M) (a5 : Int) (a6 : Int) (a7 : Int) (a8 : Int), G l K mX3_placeUnits 4 90 0 0 67 [vR a0, vI a1, vU, vU, vI a4, vI a5, vI a6, vI a7, vI a8, vU, vU] [] s (r s a5 a6 a7 a8)) (hk : ∀ (s : z_M), G l K mX3_placeUnits 4 90 0 0 299 [vU, vU, vU, vU, vU, vU, vU, vU, vU, vU, vU] [] s (k s)) : G l K mX3_placeUnits 4 90 0 0 107 [vR a0, vI a1, vU, vU, vI a4, vI a5, vI a6, vI a7, vI a8, vU, vU] [vI t0] s (fX3_placeUnits_J107 fu s a0 a1 a4 a5 a6 a7 a8 t0 r k) := by
  unfold fX3_placeUnits_J107
  refine G_istore (lv' := [vR a0, vI a1, vU, vU, vI a4, vI a5, vI a6, vI a7, vI a8, vI t0, vU]) (pc := 107) dX3_placeUnits_107 rfl ?_
  refine G_aload_n (x := a0) (pc := 109) dX3_placeUnits_109 rfl ?_
  refine G_getR (j := 1) (pc := 110) dX3_placeUnits_110 rfl z_CLX3 (by decide) z_wX3_51 (by decide) (fun x22 => ?_)
  refine G_getR (j := 2) (pc := 113) dX3_placeUnits_113 rfl z_CLX10 (by decide) z_wX3_136 (by decide) (fun x23 => ?_)
  refine G_iload (x := a8) (pc := 116) dX3_placeUnits_116 rfl ?_
  refine G_callVI (as := [vI a8]) (st := []) (c := 7) (bc2 := 0) (bs2 := 0) (pc := 118) dX3_placeUnits_118 z_mX7_get z_vX7_get z_wX3_98 (gX7_get hst fu s x23 a8) rfl rfl (by decide) rfl rfl ⟨by decide, by decide, by decide, by decide, Nat.le_of_ble_eq_true rfl⟩ rfl (fun x25 s24 => ?_)
  refine G_iconst (pc := 121) dX3_placeUnits_121 ?_
  refine G_icmp_ne (tgt := 137) (pc := 122) dX3_placeUnits_122 ?_ ?_
  · refine G_iconst (pc := 137) dX3_placeUnits_137 ?_
    exact gX3_placeUnits_J138 hst fu s24 a0 a1 a4 a5 a6 a7 a8 t0 0 _ _ (fun w v5 v6 v7 v8 => hr w v5 v6 v7 v8) hk
  · refine G_aload_n (x := a0) (pc := 125) dX3_placeUnits_125 rfl ?_
    refine G_getR (j := 2) (pc := 126) dX3_placeUnits_126 rfl z_CLX3 (by decide) z_wX3_55 (by decide) (fun x60 => ?_)
    refine G_iload (x := a8) (pc := 129) dX3_placeUnits_129 rfl ?_
    refine G_callVI (as := [vI a8]) (st := []) (c := 5) (bc2 := 0) (bs2 := 0) (pc := 131) dX3_placeUnits_131 z_mX5_spaceOf z_vX5_spaceOf z_wX3_145 (gX5_spaceOf hst fu s24 x60 a8) rfl rfl (by decide) rfl rfl ⟨by decide, by decide, by decide, by decide, Nat.le_of_ble_eq_true rfl⟩ rfl (fun x62 s61 => ?_)
    refine G_goto (tgt := 138) (pc := 134) dX3_placeUnits_134 ?_
    exact gX3_placeUnits_J138 hst fu s61 a0 a1 a4 a5 a6 a7 a8 t0 x62 _ _ (fun w v5 v6 v7 v8 => hr w v5 v6 v7 v8) hk
def fX3_placeUnits_L67 (fu : Nat) (a0 : Int) (a1 : Int) (a4 : Int) : Nat → z_M → Int → Int → Int → Int → (z_M → z_O) → z_O
  | 0, _, _, _, _, _, _ => none
  | F + 1, s, a5, a6, a7, a8, k => if z_ob a0 3 then z_let (z_gr a0 3) (fun x13 => if z_ob x13 1 then z_let (z_gr x13 5) (fun x14 => z_let (z_w (a1 + 1)) (fun x15 => if z_ob x14 7 then z_bI (fX7_get fu s x14 x15) (fun x17 s16 => if (x17 : Int) ≤ a8 then (k s16) else (if z_ob a0 3 then z_let (z_gr a0 1) (fun x18 => if z_ob x18 10 then z_let (z_gr x18 2) (fun x19 => if z_ob x19 7 then z_bI (fX7_get fu s16 x19 a8) (fun x21 s20 => if (x21 : Int) ≠ 7 then (fX3_placeUnits_J107 fu s20 a0 a1 a4 a5 a6 a7 a8 0 (fun w v5 v6 v7 v8 => fX3_placeUnits_L67 fu a0 a1 a4 F w v5 v6 v7 v8 k) k) else (fX3_placeUnits_J107 fu s20 a0 a1 a4 a5 a6 a7 a8 1 (fun w v5 v6 v7 v8 => fX3_placeUnits_L67 fu a0 a1 a4 F w v5 v6 v7 v8 k) k)) else none) else none) else none)) else none)) else none) else none
theorem gX3_placeUnits_L67 {l : Launch} {K : z_K} (hst : l.stackTraces = false) (fu : Nat) (a0 : Int) (a1 : Int) (a4 : Int) (k : z_M → z_O) (hk : ∀ (s : z_M), G l K mX3_placeUnits 4 90 0 0 299 [vU, vU, vU, vU, vU, vU, vU, vU, vU, vU, vU] [] s (k s)) : ∀ (F : Nat) (s : z_M) (a5 : Int) (a6 : Int) (a7 : Int) (a8 : Int), G l K mX3_placeUnits 4 90 0 0 67 [vR a0, vI a1, vU, vU, vI a4, vI a5, vI a6, vI a7, vI a8, vU, vU] [] s (fX3_placeUnits_L67 fu a0 a1 a4 F s a5 a6 a7 a8 k) := by
  intro F
  induction F with
  | zero => exact fun s a5 a6 a7 a8 h => absurd rfl h
  | succ F ih =>
    intro s a5 a6 a7 a8
    rw [fX3_placeUnits_L67]
    refine G_iload (x := a8) (pc := 67) dX3_placeUnits_67 rfl ?_
    refine G_aload_n (x := a0) (pc := 69) dX3_placeUnits_69 rfl ?_
    refine G_getR (j := 3) (pc := 70) dX3_placeUnits_70 rfl z_CLX3 (by decide) z_wX3_59 (by decide) (fun x13 => ?_)
    refine G_getR (j := 5) (pc := 73) dX3_placeUnits_73 rfl z_CLX1 (by decide) z_wX3_95 (by decide) (fun x14 => ?_)
    refine G_iload_n (x := a1) (pc := 76) dX3_placeUnits_76 rfl ?_
    refine G_iconst (pc := 77) dX3_placeUnits_77 ?_
    refine G_iadd (pc := 78) dX3_placeUnits_78 (fun x15 => ?_)
    refine G_callVI (as := [vI x15]) (st := [vI a8]) (c := 7) (bc2 := 0) (bs2 := 0) (pc := 79) dX3_placeUnits_79 z_mX7_get z_vX7_get z_wX3_98 (gX7_get hst fu s x14 x15) rfl rfl (by decide) rfl rfl ⟨by decide, by decide, by decide, by decide, Nat.le_of_ble_eq_true rfl⟩ rfl (fun x17 s16 => ?_)
    refine G_icmp_ge (tgt := 299) (pc := 82) dX3_placeUnits_82 ?_ ?_
    · refine G_fg (lv2 := [vU, vU, vU, vU, vU, vU, vU, vU, vU, vU, vU]) ⟨Or.inl rfl, Or.inl rfl, Or.inl rfl, Or.inl rfl, Or.inl rfl, Or.inl rfl, Or.inl rfl, Or.inl rfl, Or.inl rfl, Or.inl rfl, Or.inl rfl, trivial⟩ ?_
      exact hk s16
    · refine G_aload_n (x := a0) (pc := 85) dX3_placeUnits_85 rfl ?_
      refine G_getR (j := 1) (pc := 86) dX3_placeUnits_86 rfl z_CLX3 (by decide) z_wX3_51 (by decide) (fun x18 => ?_)
      refine G_getR (j := 2) (pc := 89) dX3_placeUnits_89 rfl z_CLX10 (by decide) z_wX3_136 (by decide) (fun x19 => ?_)
      refine G_iload (x := a8) (pc := 92) dX3_placeUnits_92 rfl ?_
      refine G_callVI (as := [vI a8]) (st := []) (c := 7) (bc2 := 0) (bs2 := 0) (pc := 94) dX3_placeUnits_94 z_mX7_get z_vX7_get z_wX3_98 (gX7_get hst fu s16 x19 a8) rfl rfl (by decide) rfl rfl ⟨by decide, by decide, by decide, by decide, Nat.le_of_ble_eq_true rfl⟩ rfl (fun x21 s20 => ?_)
      refine G_bipush (pc := 97) dX3_placeUnits_97 ?_
      refine G_icmp_ne (tgt := 106) (pc := 99) dX3_placeUnits_99 ?_ ?_
      · refine G_iconst (pc := 106) dX3_placeUnits_106 ?_
        exact gX3_placeUnits_J107 hst fu s20 a0 a1 a4 a5 a6 a7 a8 0 _ _ (fun w v5 v6 v7 v8 => ih w v5 v6 v7 v8) hk
      · refine G_iconst (pc := 102) dX3_placeUnits_102 ?_
        refine G_goto (tgt := 107) (pc := 103) dX3_placeUnits_103 ?_
        exact gX3_placeUnits_J107 hst fu s20 a0 a1 a4 a5 a6 a7 a8 1 _ _ (fun w v5 v6 v7 v8 => ih w v5 v6 v7 v8) hk
def fX3_placeUnits_J39 (fu : Nat) (s : z_M) (a0 : Int) (a1 : Int) (a4 : Int) (t0 : Int) : z_O := if z_ob a0 3 then z_let (z_gr a0 15) (fun x6 => if z_ob x6 7 then z_bI (fX7_get fu s x6 a1) (fun x8 s7 => if z_ob a0 3 then z_let (z_gr a0 3) (fun x9 => if z_ob x9 1 then z_let (z_gr x9 5) (fun x10 => if z_ob x10 7 then z_bI (fX7_get fu s7 x10 a1) (fun x12 s11 => fX3_placeUnits_L67 fu a0 a1 a4 fu s11 t0 x8 0 x12 (fun s63 => some (vN, s63))) else none) else none) else none) else none) else none
theorem gX3_placeUnits_J39 {l : Launch} {K : z_K} (hst : l.stackTraces = false) (fu : Nat) (s : z_M) (a0 : Int) (a1 : Int) (a4 : Int) (t0 : Int) : G l K mX3_placeUnits 4 90 0 0 39 [vR a0, vI a1, vU, vU, vI a4, vU, vU, vU, vU, vU, vU] [vI t0] s (fX3_placeUnits_J39 fu s a0 a1 a4 t0) := by
  unfold fX3_placeUnits_J39
  refine G_istore (lv' := [vR a0, vI a1, vU, vU, vI a4, vI t0, vU, vU, vU, vU, vU]) (pc := 39) dX3_placeUnits_39 rfl ?_
  refine G_aload_n (x := a0) (pc := 41) dX3_placeUnits_41 rfl ?_
  refine G_getR (j := 15) (pc := 42) dX3_placeUnits_42 rfl z_CLX3 (by decide) z_wX3_44 (by decide) (fun x6 => ?_)
  refine G_iload_n (x := a1) (pc := 45) dX3_placeUnits_45 rfl ?_
  refine G_callVI (as := [vI a1]) (st := []) (c := 7) (bc2 := 0) (bs2 := 0) (pc := 46) dX3_placeUnits_46 z_mX7_get z_vX7_get z_wX3_98 (gX7_get hst fu s x6 a1) rfl rfl (by decide) rfl rfl ⟨by decide, by decide, by decide, by decide, Nat.le_of_ble_eq_true rfl⟩ rfl (fun x8 s7 => ?_)
  refine G_istore (lv' := [vR a0, vI a1, vU, vU, vI a4, vI t0, vI x8, vU, vU, vU, vU]) (pc := 49) dX3_placeUnits_49 rfl ?_
  refine G_iconst (pc := 51) dX3_placeUnits_51 ?_
  refine G_istore (lv' := [vR a0, vI a1, vU, vU, vI a4, vI t0, vI x8, vI 0, vU, vU, vU]) (pc := 52) dX3_placeUnits_52 rfl ?_
  refine G_aload_n (x := a0) (pc := 54) dX3_placeUnits_54 rfl ?_
  refine G_getR (j := 3) (pc := 55) dX3_placeUnits_55 rfl z_CLX3 (by decide) z_wX3_59 (by decide) (fun x9 => ?_)
  refine G_getR (j := 5) (pc := 58) dX3_placeUnits_58 rfl z_CLX1 (by decide) z_wX3_95 (by decide) (fun x10 => ?_)
  refine G_iload_n (x := a1) (pc := 61) dX3_placeUnits_61 rfl ?_
  refine G_callVI (as := [vI a1]) (st := []) (c := 7) (bc2 := 0) (bs2 := 0) (pc := 62) dX3_placeUnits_62 z_mX7_get z_vX7_get z_wX3_98 (gX7_get hst fu s7 x10 a1) rfl rfl (by decide) rfl rfl ⟨by decide, by decide, by decide, by decide, Nat.le_of_ble_eq_true rfl⟩ rfl (fun x12 s11 => ?_)
  refine G_istore (lv' := [vR a0, vI a1, vU, vU, vI a4, vI t0, vI x8, vI 0, vI x12, vU, vU]) (pc := 65) dX3_placeUnits_65 rfl ?_
  refine gX3_placeUnits_L67 hst fu a0 a1 a4 _ (fun s63 => ?_) fu s11 t0 x8 0 x12
  exact G_vret (pc := 299) dX3_placeUnits_299
def fX3_placeUnits_J26 (fu : Nat) (s : z_M) (a0 : Int) (a1 : Int) (a2 : Int) (a3 : Int) (t0 : Int) : z_O := if (a2 : Int) ≤ 0 then (fX3_placeUnits_J39 fu s a0 a1 t0 0) else (if a2 ≠ 0 then z_let (Int.tmod a3 a2) (fun x64 => fX3_placeUnits_J39 fu s a0 a1 t0 x64) else none)
theorem gX3_placeUnits_J26 {l : Launch} {K : z_K} (hst : l.stackTraces = false) (fu : Nat) (s : z_M) (a0 : Int) (a1 : Int) (a2 : Int) (a3 : Int) (t0 : Int) : G l K mX3_placeUnits 4 90 0 0 26 [vR a0, vI a1, vI a2, vI a3, vU, vU, vU, vU, vU, vU, vU] [vI t0] s (fX3_placeUnits_J26 fu s a0 a1 a2 a3 t0) := by
  unfold fX3_placeUnits_J26
  refine G_istore (lv' := [vR a0, vI a1, vI a2, vI a3, vI t0, vU, vU, vU, vU, vU, vU]) (pc := 26) dX3_placeUnits_26 rfl ?_
  refine G_iload_n (x := a2) (pc := 28) dX3_placeUnits_28 rfl ?_
  refine G_if_le (tgt := 38) (pc := 29) dX3_placeUnits_29 ?_ ?_
  · refine G_iconst (pc := 38) dX3_placeUnits_38 ?_
    refine G_fg (lv2 := [vR a0, vI a1, vU, vU, vI t0, vU, vU, vU, vU, vU, vU]) ⟨Or.inr rfl, Or.inr rfl, Or.inl rfl, Or.inl rfl, Or.inr rfl, Or.inl rfl, Or.inl rfl, Or.inl rfl, Or.inl rfl, Or.inl rfl, Or.inl rfl, trivial⟩ ?_
    exact gX3_placeUnits_J39 hst fu s a0 a1 t0 0
  · refine G_iload_n (x := a3) (pc := 32) dX3_placeUnits_32 rfl ?_
    refine G_iload_n (x := a2) (pc := 33) dX3_placeUnits_33 rfl ?_
    refine G_irem (pc := 34) dX3_placeUnits_34 (fun x64 => ?_)
    refine G_goto (tgt := 39) (pc := 35) dX3_placeUnits_35 ?_
    refine G_fg (lv2 := [vR a0, vI a1, vU, vU, vI t0, vU, vU, vU, vU, vU, vU]) ⟨Or.inr rfl, Or.inr rfl, Or.inl rfl, Or.inl rfl, Or.inr rfl, Or.inl rfl, Or.inl rfl, Or.inl rfl, Or.inl rfl, Or.inl rfl, Or.inl rfl, trivial⟩ ?_
    exact gX3_placeUnits_J39 hst fu s a0 a1 t0 x64
def fX3_placeUnits (fu : Nat) (s : z_M) (a0 : Int) (a1 : Int) : z_O := if z_ob a0 3 then z_let (z_gr a0 12) (fun x1 => if z_ob x1 7 then z_bI (fX7_get fu s x1 a1) (fun x3 s2 => if z_ob a0 3 then z_bI (fX3_restToShare fu s2 a0 a1) (fun x5 s4 => if (x3 : Int) ≤ 0 then (fX3_placeUnits_J26 fu s4 a0 a1 x3 x5 0) else (if x3 ≠ 0 then z_let (z_w (Int.tdiv x5 x3)) (fun x65 => fX3_placeUnits_J26 fu s4 a0 a1 x3 x5 x65) else none)) else none) else none) else none
theorem gX3_placeUnits {l : Launch} {K : z_K} (hst : l.stackTraces = false) (fu : Nat) (s : z_M) (a0 : Int) (a1 : Int) : z_D l K mX3_placeUnits 4 90 0 0 [vR a0, vI a1] s (fX3_placeUnits fu s a0 a1) := by
  refine z_D_of (lv := [vR a0, vI a1, vU, vU, vU, vU, vU, vU, vU, vU, vU]) hst z_mX3_placeUnits rfl ?_ (Nat.le_of_ble_eq_true rfl) rfl
  unfold fX3_placeUnits
  refine G_aload_n (x := a0) (pc := 0) dX3_placeUnits_0 rfl ?_
  refine G_getR (j := 12) (pc := 1) dX3_placeUnits_1 rfl z_CLX3 (by decide) z_wX3_35 (by decide) (fun x1 => ?_)
  refine G_iload_n (x := a1) (pc := 4) dX3_placeUnits_4 rfl ?_
  refine G_callVI (as := [vI a1]) (st := []) (c := 7) (bc2 := 0) (bs2 := 0) (pc := 5) dX3_placeUnits_5 z_mX7_get z_vX7_get z_wX3_98 (gX7_get hst fu s x1 a1) rfl rfl (by decide) rfl rfl ⟨by decide, by decide, by decide, by decide, Nat.le_of_ble_eq_true rfl⟩ rfl (fun x3 s2 => ?_)
  refine G_istore_n (lv' := [vR a0, vI a1, vI x3, vU, vU, vU, vU, vU, vU, vU, vU]) (pc := 8) dX3_placeUnits_8 rfl ?_
  refine G_aload_n (x := a0) (pc := 9) dX3_placeUnits_9 rfl ?_
  refine G_iload_n (x := a1) (pc := 10) dX3_placeUnits_10 rfl ?_
  refine G_callVI (as := [vI a1]) (st := []) (c := 3) (bc2 := 0) (bs2 := 0) (pc := 11) dX3_placeUnits_11 z_mX3_restToShare z_vX3_restToShare z_wX3_142 (gX3_restToShare hst fu s2 a0 a1) rfl rfl (by decide) rfl rfl ⟨by decide, by decide, by decide, by decide, Nat.le_of_ble_eq_true rfl⟩ rfl (fun x5 s4 => ?_)
  refine G_istore_n (lv' := [vR a0, vI a1, vI x3, vI x5, vU, vU, vU, vU, vU, vU, vU]) (pc := 14) dX3_placeUnits_14 rfl ?_
  refine G_iload_n (x := x3) (pc := 15) dX3_placeUnits_15 rfl ?_
  refine G_if_le (tgt := 25) (pc := 16) dX3_placeUnits_16 ?_ ?_
  · refine G_iconst (pc := 25) dX3_placeUnits_25 ?_
    exact gX3_placeUnits_J26 hst fu s4 a0 a1 x3 x5 0
  · refine G_iload_n (x := x5) (pc := 19) dX3_placeUnits_19 rfl ?_
    refine G_iload_n (x := x3) (pc := 20) dX3_placeUnits_20 rfl ?_
    refine G_idiv (pc := 21) dX3_placeUnits_21 (fun x65 => ?_)
    refine G_goto (tgt := 26) (pc := 22) dX3_placeUnits_22 ?_
    exact gX3_placeUnits_J26 hst fu s4 a0 a1 x3 x5 x65
def fX3_build_L9 (fu : Nat) (a0 : Int) : Nat → z_M → Int → (z_M → z_O) → z_O
  | 0, _, _, _ => none
  | F + 1, s, a1, k => if z_ob a0 3 then z_let (z_gr a0 3) (fun x3 => if z_ob x3 1 then z_let (s x3 6) (fun x4 => if (x4 : Int) ≤ a1 then (k s) else (if z_ob a0 3 then z_bN (fX3_measureLine fu s a0 a1) (fun s5 => if z_ob a0 3 then z_bN (fX3_placeUnits fu s5 a0 a1) (fun s6 => z_let (z_w (a1 + 1)) (fun x7 => fX3_build_L9 fu a0 F s6 x7 k)) else none) else none)) else none) else none
theorem gX3_build_L9 {l : Launch} {K : z_K} (hst : l.stackTraces = false) (fu : Nat) (a0 : Int) (k : z_M → z_O) (hk : ∀ (s : z_M), G l K mX3_build 5 127 0 0 36 [vR a0, vU] [] s (k s)) : ∀ (F : Nat) (s : z_M) (a1 : Int), G l K mX3_build 5 127 0 0 9 [vR a0, vI a1] [] s (fX3_build_L9 fu a0 F s a1 k) := by
  intro F
  induction F with
  | zero => exact fun s a1 h => absurd rfl h
  | succ F ih =>
    intro s a1
    rw [fX3_build_L9]
    refine G_iload_n (x := a1) (pc := 9) dX3_build_9 rfl ?_
    refine G_aload_n (x := a0) (pc := 10) dX3_build_10 rfl ?_
    refine G_getR (j := 3) (pc := 11) dX3_build_11 rfl z_CLX3 (by decide) z_wX3_59 (by decide) (fun x3 => ?_)
    refine G_getI (j := 6) (pc := 14) dX3_build_14 rfl z_CLX1 (by decide) z_wX3_78 (by decide) (fun x4 => ?_)
    refine G_icmp_ge (tgt := 36) (pc := 17) dX3_build_17 ?_ ?_
    · refine G_fg (lv2 := [vR a0, vU]) ⟨Or.inr rfl, Or.inl rfl, trivial⟩ ?_
      exact hk s
    · refine G_aload_n (x := a0) (pc := 20) dX3_build_20 rfl ?_
      refine G_iload_n (x := a1) (pc := 21) dX3_build_21 rfl ?_
      refine G_callVN (as := [vI a1]) (st := []) (c := 3) (bc2 := 0) (bs2 := 0) (pc := 22) dX3_build_22 z_mX3_measureLine z_vX3_measureLine z_wX3_84 (gX3_measureLine hst fu s a0 a1) rfl rfl (by decide) rfl rfl ⟨by decide, by decide, by decide, by decide, Nat.le_of_ble_eq_true rfl⟩ rfl (fun s5 => ?_)
      refine G_aload_n (x := a0) (pc := 25) dX3_build_25 rfl ?_
      refine G_iload_n (x := a1) (pc := 26) dX3_build_26 rfl ?_
      refine G_callVN (as := [vI a1]) (st := []) (c := 3) (bc2 := 0) (bs2 := 0) (pc := 27) dX3_build_27 z_mX3_placeUnits z_vX3_placeUnits z_wX3_87 (gX3_placeUnits hst fu s5 a0 a1) rfl rfl (by decide) rfl rfl ⟨by decide, by decide, by decide, by decide, Nat.le_of_ble_eq_true rfl⟩ rfl (fun s6 => ?_)
      refine G_iinc (x := a1) (g := fun x7 => [vR a0, vI x7]) (pc := 30) dX3_build_30 rfl (fun _ => rfl) (fun x7 => ?_)
      refine G_goto (tgt := 9) (pc := 33) dX3_build_33 ?_
      exact ih s6 x7
def fX3_build (fu : Nat) (s : z_M) (a0 : Int) : z_O := if z_ob a0 3 then z_let (z_gr a0 5) (fun x1 => if z_ob x1 0 then z_bN (fX0_clear fu s x1) (fun s2 => fX3_build_L9 fu a0 fu s2 0 (fun s8 => if z_ob a0 3 then z_let (z_gr a0 15) (fun x9 => if z_ob a0 3 then z_let (z_gr a0 3) (fun x10 => if z_ob x10 1 then z_let (s8 x10 6) (fun x11 => if z_ob a0 3 then z_let (z_gr a0 5) (fun x12 => if z_ob x12 0 then z_let (s8 x12 9) (fun x13 => if z_ob x9 7 then z_bN (fX7_put fu s8 x9 x11 x13) (fun s14 => some (vN, s14)) else none) else none) else none) else none) else none) else none)) else none) else none
theorem gX3_build {l : Launch} {K : z_K} (hst : l.stackTraces = false) (fu : Nat) (s : z_M) (a0 : Int) : z_D l K mX3_build 5 127 0 0 [vR a0] s (fX3_build fu s a0) := by
  refine z_D_of (lv := [vR a0, vU]) hst z_mX3_build rfl ?_ (Nat.le_of_ble_eq_true rfl) rfl
  unfold fX3_build
  refine G_aload_n (x := a0) (pc := 0) dX3_build_0 rfl ?_
  refine G_getR (j := 5) (pc := 1) dX3_build_1 rfl z_CLX3 (by decide) z_wX3_71 (by decide) (fun x1 => ?_)
  refine G_callVN (as := []) (st := []) (c := 0) (bc2 := 0) (bs2 := 0) (pc := 4) dX3_build_4 z_mX0_clear z_vX0_clear z_wX3_75 (gX0_clear hst fu s x1) rfl rfl (by decide) rfl rfl ⟨by decide, by decide, by decide, by decide, Nat.le_of_ble_eq_true rfl⟩ rfl (fun s2 => ?_)
  refine G_iconst (pc := 7) dX3_build_7 ?_
  refine G_istore_n (lv' := [vR a0, vI 0]) (pc := 8) dX3_build_8 rfl ?_
  refine gX3_build_L9 hst fu a0 _ (fun s8 => ?_) fu s2 0
  refine G_aload_n (x := a0) (pc := 36) dX3_build_36 rfl ?_
  refine G_getR (j := 15) (pc := 37) dX3_build_37 rfl z_CLX3 (by decide) z_wX3_44 (by decide) (fun x9 => ?_)
  refine G_aload_n (x := a0) (pc := 40) dX3_build_40 rfl ?_
  refine G_getR (j := 3) (pc := 41) dX3_build_41 rfl z_CLX3 (by decide) z_wX3_59 (by decide) (fun x10 => ?_)
  refine G_getI (j := 6) (pc := 44) dX3_build_44 rfl z_CLX1 (by decide) z_wX3_78 (by decide) (fun x11 => ?_)
  refine G_aload_n (x := a0) (pc := 47) dX3_build_47 rfl ?_
  refine G_getR (j := 5) (pc := 48) dX3_build_48 rfl z_CLX3 (by decide) z_wX3_71 (by decide) (fun x12 => ?_)
  refine G_getI (j := 9) (pc := 51) dX3_build_51 rfl z_CLX0 (by decide) z_wX3_90 (by decide) (fun x13 => ?_)
  refine G_callVN (as := [vI x11, vI x13]) (st := []) (c := 7) (bc2 := 0) (bs2 := 0) (pc := 54) dX3_build_54 z_mX7_put z_vX7_put z_wX3_91 (gX7_put hst fu s8 x9 x11 x13) rfl rfl (by decide) rfl rfl ⟨by decide, by decide, by decide, by decide, Nat.le_of_ble_eq_true rfl⟩ rfl (fun s14 => ?_)
  exact G_vret (pc := 57) dX3_build_57
def fX11_refresh_J78 (fu : Nat) (s : z_M) : z_O := some (vN, s)
theorem gX11_refresh_J78 {l : Launch} {K : z_K} (hst : l.stackTraces = false) (fu : Nat) (s : z_M) : G l K mX11_refresh 6 152 0 0 78 [vU] [] s (fX11_refresh_J78 fu s) := by
  unfold fX11_refresh_J78
  exact G_vret (pc := 78) dX11_refresh_78
def fX11_refresh_J31 (fu : Nat) (s : z_M) (a0 : Int) : z_O := if z_ob a0 11 then z_let (s a0 17) (fun x2 => if (x2 : Int) ≠ 0 then (fX11_refresh_J78 fu s) else (if z_ob a0 11 then z_let (z_gr a0 8) (fun x3 => if z_ob a0 11 then z_let (z_gr a0 0) (fun x4 => if z_ob x4 7 then z_bI (fX7_get fu s x4 0) (fun x6 s5 => if z_ob a0 11 then z_let (z_gr a0 0) (fun x7 => if z_ob x7 7 then z_bI (fX7_get fu s5 x7 3) (fun x9 s8 => if z_ob x3 1 then z_bN (fX1_go fu s8 x3 x6 x9) (fun s10 => if z_ob a0 11 then z_let (z_gr a0 10) (fun x11 => if z_ob x11 3 then z_bN (fX3_build fu s10 x11) (fun s12 => if z_ob a0 11 ∧ z_bl 1 then z_let (z_up s12 a0 17 1) (fun s13 => if z_ob a0 11 ∧ z_bl 0 then z_let (z_up s13 a0 18 0) (fun s14 => fX11_refresh_J78 fu s14) else none) else none) else none) else none) else none) else none) else none) else none) else none) else none)) else none
theorem gX11_refresh_J31 {l : Launch} {K : z_K} (hst : l.stackTraces = false) (fu : Nat) (s : z_M) (a0 : Int) : G l K mX11_refresh 6 152 0 0 31 [vR a0] [] s (fX11_refresh_J31 fu s a0) := by
  unfold fX11_refresh_J31
  refine G_aload_n (x := a0) (pc := 31) dX11_refresh_31 rfl ?_
  refine G_getI (j := 17) (pc := 32) dX11_refresh_32 rfl z_CLX11 (by decide) z_wX11_146 (by decide) (fun x2 => ?_)
  refine G_if_ne (tgt := 78) (pc := 35) dX11_refresh_35 ?_ ?_
  · refine G_fg (lv2 := [vU]) ⟨Or.inl rfl, trivial⟩ ?_
    exact gX11_refresh_J78 hst fu s
  · refine G_aload_n (x := a0) (pc := 38) dX11_refresh_38 rfl ?_
    refine G_getR (j := 8) (pc := 39) dX11_refresh_39 rfl z_CLX11 (by decide) z_wX11_74 (by decide) (fun x3 => ?_)
    refine G_aload_n (x := a0) (pc := 42) dX11_refresh_42 rfl ?_
    refine G_getR (j := 0) (pc := 43) dX11_refresh_43 rfl z_CLX11 (by decide) z_wX11_18 (by decide) (fun x4 => ?_)
    refine G_iconst (pc := 46) dX11_refresh_46 ?_
    refine G_callVI (as := [vI 0]) (st := [vR x3]) (c := 7) (bc2 := 0) (bs2 := 0) (pc := 47) dX11_refresh_47 z_mX7_get z_vX7_get z_wX11_143 (gX7_get hst fu s x4 0) rfl rfl (by decide) rfl rfl ⟨by decide, by decide, by decide, by decide, Nat.le_of_ble_eq_true rfl⟩ rfl (fun x6 s5 => ?_)
    refine G_aload_n (x := a0) (pc := 50) dX11_refresh_50 rfl ?_
    refine G_getR (j := 0) (pc := 51) dX11_refresh_51 rfl z_CLX11 (by decide) z_wX11_18 (by decide) (fun x7 => ?_)
    refine G_iconst (pc := 54) dX11_refresh_54 ?_
    refine G_callVI (as := [vI 3]) (st := [vI x6, vR x3]) (c := 7) (bc2 := 0) (bs2 := 0) (pc := 55) dX11_refresh_55 z_mX7_get z_vX7_get z_wX11_143 (gX7_get hst fu s5 x7 3) rfl rfl (by decide) rfl rfl ⟨by decide, by decide, by decide, by decide, Nat.le_of_ble_eq_true rfl⟩ rfl (fun x9 s8 => ?_)
    refine G_callVN (as := [vI x6, vI x9]) (st := []) (c := 1) (bc2 := 0) (bs2 := 0) (pc := 58) dX11_refresh_58 z_mX1_go z_vX1_go z_wX11_296 (gX1_go hst fu s8 x3 x6 x9) rfl rfl (by decide) rfl rfl ⟨by decide, by decide, by decide, by decide, Nat.le_of_ble_eq_true rfl⟩ rfl (fun s10 => ?_)
    refine G_aload_n (x := a0) (pc := 61) dX11_refresh_61 rfl ?_
    refine G_getR (j := 10) (pc := 62) dX11_refresh_62 rfl z_CLX11 (by decide) z_wX11_86 (by decide) (fun x11 => ?_)
    refine G_callVN (as := []) (st := []) (c := 3) (bc2 := 0) (bs2 := 0) (pc := 65) dX11_refresh_65 z_mX3_build z_vX3_build z_wX11_375 (gX3_build hst fu s10 x11) rfl rfl (by decide) rfl rfl ⟨by decide, by decide, by decide, by decide, Nat.le_of_ble_eq_true rfl⟩ rfl (fun s12 => ?_)
    refine G_aload_n (x := a0) (pc := 68) dX11_refresh_68 rfl ?_
    refine G_iconst (pc := 69) dX11_refresh_69 ?_
    refine G_putZ (j := 17) (pc := 70) dX11_refresh_70 rfl z_CLX11 (by decide) z_wX11_146 rfl (by decide) (fun s13 => ?_)
    refine G_aload_n (x := a0) (pc := 73) dX11_refresh_73 rfl ?_
    refine G_iconst (pc := 74) dX11_refresh_74 ?_
    refine G_putZ (j := 18) (pc := 75) dX11_refresh_75 rfl z_CLX11 (by decide) z_wX11_376 rfl (by decide) (fun s14 => ?_)
    refine G_fg (lv2 := [vU]) ⟨Or.inl rfl, trivial⟩ ?_
    exact gX11_refresh_J78 hst fu s14
def fX11_refresh (fu : Nat) (s : z_M) (a0 : Int) : z_O := if z_ob a0 11 then z_let (s a0 16) (fun x1 => if (x1 : Int) ≠ 0 then (fX11_refresh_J31 fu s a0) else (if z_ob a0 11 then z_let (z_gr a0 6) (fun x15 => if z_ob x15 10 then z_bN (fX10_build fu s x15) (fun s16 => if z_ob a0 11 then z_let (z_gr a0 7) (fun x17 => if z_ob x17 5 then z_bN (fX5_forget fu s16 x17) (fun s18 => if z_ob a0 11 ∧ z_bl 1 then z_let (z_up s18 a0 16 1) (fun s19 => if z_ob a0 11 ∧ z_bl 0 then z_let (z_up s19 a0 17 0) (fun s20 => fX11_refresh_J31 fu s20 a0) else none) else none) else none) else none) else none) else none)) else none
theorem gX11_refresh {l : Launch} {K : z_K} (hst : l.stackTraces = false) (fu : Nat) (s : z_M) (a0 : Int) : z_D l K mX11_refresh 6 152 0 0 [vR a0] s (fX11_refresh fu s a0) := by
  refine z_D_of (lv := [vR a0]) hst z_mX11_refresh rfl ?_ (Nat.le_of_ble_eq_true rfl) rfl
  unfold fX11_refresh
  refine G_aload_n (x := a0) (pc := 0) dX11_refresh_0 rfl ?_
  refine G_getI (j := 16) (pc := 1) dX11_refresh_1 rfl z_CLX11 (by decide) z_wX11_150 (by decide) (fun x1 => ?_)
  refine G_if_ne (tgt := 31) (pc := 4) dX11_refresh_4 ?_ ?_
  · exact gX11_refresh_J31 hst fu s a0
  · refine G_aload_n (x := a0) (pc := 7) dX11_refresh_7 rfl ?_
    refine G_getR (j := 6) (pc := 8) dX11_refresh_8 rfl z_CLX11 (by decide) z_wX11_56 (by decide) (fun x15 => ?_)
    refine G_callVN (as := []) (st := []) (c := 10) (bc2 := 0) (bs2 := 0) (pc := 11) dX11_refresh_11 z_mX10_build z_vX10_build z_wX11_305 (gX10_build hst fu s x15) rfl rfl (by decide) rfl rfl ⟨by decide, by decide, by decide, by decide, Nat.le_of_ble_eq_true rfl⟩ rfl (fun s16 => ?_)
    refine G_aload_n (x := a0) (pc := 14) dX11_refresh_14 rfl ?_
    refine G_getR (j := 7) (pc := 15) dX11_refresh_15 rfl z_CLX11 (by decide) z_wX11_65 (by decide) (fun x17 => ?_)
    refine G_callVN (as := []) (st := []) (c := 5) (bc2 := 0) (bs2 := 0) (pc := 18) dX11_refresh_18 z_mX5_forget z_vX5_forget z_wX11_308 (gX5_forget hst fu s16 x17) rfl rfl (by decide) rfl rfl ⟨by decide, by decide, by decide, by decide, Nat.le_of_ble_eq_true rfl⟩ rfl (fun s18 => ?_)
    refine G_aload_n (x := a0) (pc := 21) dX11_refresh_21 rfl ?_
    refine G_iconst (pc := 22) dX11_refresh_22 ?_
    refine G_putZ (j := 16) (pc := 23) dX11_refresh_23 rfl z_CLX11 (by decide) z_wX11_150 rfl (by decide) (fun s19 => ?_)
    refine G_aload_n (x := a0) (pc := 26) dX11_refresh_26 rfl ?_
    refine G_iconst (pc := 27) dX11_refresh_27 ?_
    refine G_putZ (j := 17) (pc := 28) dX11_refresh_28 rfl z_CLX11 (by decide) z_wX11_146 rfl (by decide) (fun s20 => ?_)
    exact gX11_refresh_J31 hst fu s20 a0
def fX11_undo (fu : Nat) (s : z_M) (a0 : Int) : z_O := if z_ob a0 11 then z_let (z_gr a0 5) (fun x1 => if z_ob a0 11 then z_let (z_gr a0 2) (fun x2 => if z_ob x1 2 then z_bI (fX2_takeBack fu s x1 x2) (fun x4 s3 => if (x4 : Int) ≠ 0 then (if z_ob a0 11 ∧ z_bl 0 then z_let (z_up s3 a0 16 0) (fun s5 => if z_ob a0 11 then z_bN (fX11_refresh fu s5 a0) (fun s6 => if z_ob a0 11 then z_let (z_gr a0 6) (fun x7 => if z_ob x7 10 then z_let (s6 x7 16) (fun x8 => some (vI x8, s6)) else none) else none) else none) else none) else (some (vI (-1), s3))) else none) else none) else none
theorem gX11_undo {l : Launch} {K : z_K} (hst : l.stackTraces = false) (fu : Nat) (s : z_M) (a0 : Int) : z_D l K mX11_undo 7 172 0 0 [vR a0] s (fX11_undo fu s a0) := by
  refine z_D_of (lv := [vR a0]) hst z_mX11_undo rfl ?_ (Nat.le_of_ble_eq_true rfl) rfl
  unfold fX11_undo
  refine G_aload_n (x := a0) (pc := 0) dX11_undo_0 rfl ?_
  refine G_getR (j := 5) (pc := 1) dX11_undo_1 rfl z_CLX11 (by decide) z_wX11_47 (by decide) (fun x1 => ?_)
  refine G_aload_n (x := a0) (pc := 4) dX11_undo_4 rfl ?_
  refine G_getR (j := 2) (pc := 5) dX11_undo_5 rfl z_CLX11 (by decide) z_wX11_28 (by decide) (fun x2 => ?_)
  refine G_callVI (as := [vR x2]) (st := []) (c := 2) (bc2 := 0) (bs2 := 0) (pc := 8) dX11_undo_8 z_mX2_takeBack z_vX2_takeBack z_wX11_168 (gX2_takeBack hst fu s x1 x2) rfl rfl (by decide) rfl rfl ⟨by decide, by decide, by decide, by decide, Nat.le_of_ble_eq_true rfl⟩ rfl (fun x4 s3 => ?_)
  refine G_if_ne (tgt := 16) (pc := 11) dX11_undo_11 ?_ ?_
  · refine G_aload_n (x := a0) (pc := 16) dX11_undo_16 rfl ?_
    refine G_iconst (pc := 17) dX11_undo_17 ?_
    refine G_putZ (j := 16) (pc := 18) dX11_undo_18 rfl z_CLX11 (by decide) z_wX11_150 rfl (by decide) (fun s5 => ?_)
    refine G_aload_n (x := a0) (pc := 21) dX11_undo_21 rfl ?_
    refine G_callVN (as := []) (st := []) (c := 11) (bc2 := 0) (bs2 := 0) (pc := 22) dX11_undo_22 z_mX11_refresh z_vX11_refresh z_wX11_124 (gX11_refresh hst fu s5 a0) rfl rfl (by decide) rfl rfl ⟨by decide, by decide, by decide, by decide, Nat.le_of_ble_eq_true rfl⟩ rfl (fun s6 => ?_)
    refine G_aload_n (x := a0) (pc := 25) dX11_undo_25 rfl ?_
    refine G_getR (j := 6) (pc := 26) dX11_undo_26 rfl z_CLX11 (by decide) z_wX11_56 (by decide) (fun x7 => ?_)
    refine G_getI (j := 16) (pc := 29) dX11_undo_29 rfl z_CLX10 (by decide) z_wX11_127 (by decide) (fun x8 => ?_)
    exact G_iret (pc := 32) dX11_undo_32
  · refine G_iconst (pc := 14) dX11_undo_14 ?_
    exact G_iret (pc := 15) dX11_undo_15
def fX1_longOfLine (fu : Nat) (s : z_M) (a0 : Int) (a1 : Int) : z_O := if z_ob a0 1 then z_let (z_gr a0 1) (fun x1 => if z_ob a0 1 then z_let (z_gr a0 5) (fun x2 => if z_ob x2 7 then z_bI (fX7_get fu s x2 a1) (fun x4 s3 => if z_ob a0 1 then z_let (z_gr a0 5) (fun x5 => z_let (z_w (a1 + 1)) (fun x6 => if z_ob x5 7 then z_bI (fX7_get fu s3 x5 x6) (fun x8 s7 => z_let (z_w (x8 - 1)) (fun x9 => if z_ob x1 5 then z_bI (fX5_lengthOf fu s7 x1 x4 x9) (fun x11 s10 => some (vI x11, s10)) else none)) else none)) else none) else none) else none) else none
theorem gX1_longOfLine {l : Launch} {K : z_K} (hst : l.stackTraces = false) (fu : Nat) (s : z_M) (a0 : Int) (a1 : Int) : z_D l K mX1_longOfLine 4 102 0 0 [vR a0, vI a1] s (fX1_longOfLine fu s a0 a1) := by
  refine z_D_of (lv := [vR a0, vI a1]) hst z_mX1_longOfLine rfl ?_ (Nat.le_of_ble_eq_true rfl) rfl
  unfold fX1_longOfLine
  refine G_aload_n (x := a0) (pc := 0) dX1_longOfLine_0 rfl ?_
  refine G_getR (j := 1) (pc := 1) dX1_longOfLine_1 rfl z_CLX1 (by decide) z_wX1_37 (by decide) (fun x1 => ?_)
  refine G_aload_n (x := a0) (pc := 4) dX1_longOfLine_4 rfl ?_
  refine G_getR (j := 5) (pc := 5) dX1_longOfLine_5 rfl z_CLX1 (by decide) z_wX1_30 (by decide) (fun x2 => ?_)
  refine G_iload_n (x := a1) (pc := 8) dX1_longOfLine_8 rfl ?_
  refine G_callVI (as := [vI a1]) (st := [vR x1]) (c := 7) (bc2 := 0) (bs2 := 0) (pc := 9) dX1_longOfLine_9 z_mX7_get z_vX7_get z_wX1_55 (gX7_get hst fu s x2 a1) rfl rfl (by decide) rfl rfl ⟨by decide, by decide, by decide, by decide, Nat.le_of_ble_eq_true rfl⟩ rfl (fun x4 s3 => ?_)
  refine G_aload_n (x := a0) (pc := 12) dX1_longOfLine_12 rfl ?_
  refine G_getR (j := 5) (pc := 13) dX1_longOfLine_13 rfl z_CLX1 (by decide) z_wX1_30 (by decide) (fun x5 => ?_)
  refine G_iload_n (x := a1) (pc := 16) dX1_longOfLine_16 rfl ?_
  refine G_iconst (pc := 17) dX1_longOfLine_17 ?_
  refine G_iadd (pc := 18) dX1_longOfLine_18 (fun x6 => ?_)
  refine G_callVI (as := [vI x6]) (st := [vI x4, vR x1]) (c := 7) (bc2 := 0) (bs2 := 0) (pc := 19) dX1_longOfLine_19 z_mX7_get z_vX7_get z_wX1_55 (gX7_get hst fu s3 x5 x6) rfl rfl (by decide) rfl rfl ⟨by decide, by decide, by decide, by decide, Nat.le_of_ble_eq_true rfl⟩ rfl (fun x8 s7 => ?_)
  refine G_iconst (pc := 22) dX1_longOfLine_22 ?_
  refine G_isub (pc := 23) dX1_longOfLine_23 (fun x9 => ?_)
  refine G_callVI (as := [vI x4, vI x9]) (st := []) (c := 5) (bc2 := 0) (bs2 := 0) (pc := 24) dX1_longOfLine_24 z_mX5_lengthOf z_vX5_lengthOf z_wX1_71 (gX5_lengthOf hst fu s7 x1 x4 x9) rfl rfl (by decide) rfl rfl ⟨by decide, by decide, by decide, by decide, Nat.le_of_ble_eq_true rfl⟩ rfl (fun x11 s10 => ?_)
  exact G_iret (pc := 27) dX1_longOfLine_27
def fX1_costs_J38 (fu : Nat) (s : z_M) (a0 : Int) (a1 : Int) (a4 : Int) (t0 : Int) (t1 : Int) (t2 : Int) (t3 : Int) (r : z_M → Int → Int → z_O) (k : z_M → Int → z_O) : z_O := z_bL (fX1_costFor fu s t1 t2 t3) (fun x7 s6 => z_let (z_wl (t0 + x7)) (fun x8 => z_let (z_w (a4 + 1)) (fun x9 => r s6 x8 x9)))
theorem gX1_costs_J38 {l : Launch} {K : z_K} (hst : l.stackTraces = false) (fu : Nat) (s : z_M) (a0 : Int) (a1 : Int) (a4 : Int) (t0 : Int) (t1 : Int) (t2 : Int) (t3 : Int) (r : z_M → Int → Int → z_O) (k : z_M → Int → z_O) (hr : ∀ (s : z_M) (a2 : Int) (a4 : Int), G l K mX1_costs 5 123 0 0 5 [vR a0, vI a1, vL a2, vU, vI a4] [] s (r s a2 a4)) (hk : ∀ (s : z_M) (a2 : Int), G l K mX1_costs 5 123 0 0 49 [vU, vU, vL a2, vU, vU] [] s (k s a2)) : G l K mX1_costs 5 123 0 0 38 [vR a0, vI a1, vU, vU, vI a4] [vI t3, vI t2, vI t1, vL t0] s (fX1_costs_J38 fu s a0 a1 a4 t0 t1 t2 t3 r k) := by
  unfold fX1_costs_J38
  refine G_callSL (as := [vI t1, vI t2, vI t3]) (st := [vL t0]) (bc2 := 0) (bs2 := 0) (pc := 38) dX1_costs_38 z_mX1_costFor z_sX1_costFor z_wX1_90 (gX1_costFor hst fu s t1 t2 t3) rfl rfl ⟨by decide, by decide, by decide, by decide, Nat.le_of_ble_eq_true rfl⟩ rfl (fun x7 s6 => ?_)
  refine G_ladd (pc := 41) dX1_costs_41 (fun x8 => ?_)
  refine G_lstore_n (lv' := [vR a0, vI a1, vL x8, vU, vI a4]) (pc := 42) dX1_costs_42 rfl ?_
  refine G_iinc (x := a4) (g := fun x9 => [vR a0, vI a1, vL x8, vU, vI x9]) (pc := 43) dX1_costs_43 rfl (fun _ => rfl) (fun x9 => ?_)
  refine G_goto (tgt := 5) (pc := 46) dX1_costs_46 ?_
  exact hr s6 x8 x9
def fX1_costs_L5 (fu : Nat) (a0 : Int) (a1 : Int) : Nat → z_M → Int → Int → (z_M → Int → z_O) → z_O
  | 0, _, _, _, _ => none
  | F + 1, s, a2, a4, k => if z_ob a0 1 then z_let (s a0 6) (fun x1 => if (x1 : Int) ≤ a4 then (k s a2) else (if z_ob a0 1 then z_bI (fX1_longOfLine fu s a0 a4) (fun x3 s2 => if z_ob a0 1 then z_let (s2 a0 6) (fun x4 => z_let (z_w (x4 - 1)) (fun x5 => if (a4 : Int) ≠ x5 then (fX1_costs_J38 fu s2 a0 a1 a4 a2 x3 a1 0 (fun w v2 v4 => fX1_costs_L5 fu a0 a1 F w v2 v4 k) k) else (fX1_costs_J38 fu s2 a0 a1 a4 a2 x3 a1 1 (fun w v2 v4 => fX1_costs_L5 fu a0 a1 F w v2 v4 k) k))) else none) else none)) else none
theorem gX1_costs_L5 {l : Launch} {K : z_K} (hst : l.stackTraces = false) (fu : Nat) (a0 : Int) (a1 : Int) (k : z_M → Int → z_O) (hk : ∀ (s : z_M) (a2 : Int), G l K mX1_costs 5 123 0 0 49 [vU, vU, vL a2, vU, vU] [] s (k s a2)) : ∀ (F : Nat) (s : z_M) (a2 : Int) (a4 : Int), G l K mX1_costs 5 123 0 0 5 [vR a0, vI a1, vL a2, vU, vI a4] [] s (fX1_costs_L5 fu a0 a1 F s a2 a4 k) := by
  intro F
  induction F with
  | zero => exact fun s a2 a4 h => absurd rfl h
  | succ F ih =>
    intro s a2 a4
    rw [fX1_costs_L5]
    refine G_iload (x := a4) (pc := 5) dX1_costs_5 rfl ?_
    refine G_aload_n (x := a0) (pc := 7) dX1_costs_7 rfl ?_
    refine G_getI (j := 6) (pc := 8) dX1_costs_8 rfl z_CLX1 (by decide) z_wX1_44 (by decide) (fun x1 => ?_)
    refine G_icmp_ge (tgt := 49) (pc := 11) dX1_costs_11 ?_ ?_
    · refine G_fg (lv2 := [vU, vU, vL a2, vU, vU]) ⟨Or.inl rfl, Or.inl rfl, Or.inr rfl, Or.inl rfl, Or.inl rfl, trivial⟩ ?_
      exact hk s a2
    · refine G_lload_n (x := a2) (pc := 14) dX1_costs_14 rfl ?_
      refine G_aload_n (x := a0) (pc := 15) dX1_costs_15 rfl ?_
      refine G_iload (x := a4) (pc := 16) dX1_costs_16 rfl ?_
      refine G_callVI (as := [vI a4]) (st := [vL a2]) (c := 1) (bc2 := 0) (bs2 := 0) (pc := 18) dX1_costs_18 z_mX1_longOfLine z_vX1_longOfLine z_wX1_97 (gX1_longOfLine hst fu s a0 a4) rfl rfl (by decide) rfl rfl ⟨by decide, by decide, by decide, by decide, Nat.le_of_ble_eq_true rfl⟩ rfl (fun x3 s2 => ?_)
      refine G_iload_n (x := a1) (pc := 21) dX1_costs_21 rfl ?_
      refine G_iload (x := a4) (pc := 22) dX1_costs_22 rfl ?_
      refine G_aload_n (x := a0) (pc := 24) dX1_costs_24 rfl ?_
      refine G_getI (j := 6) (pc := 25) dX1_costs_25 rfl z_CLX1 (by decide) z_wX1_44 (by decide) (fun x4 => ?_)
      refine G_iconst (pc := 28) dX1_costs_28 ?_
      refine G_isub (pc := 29) dX1_costs_29 (fun x5 => ?_)
      refine G_icmp_ne (tgt := 37) (pc := 30) dX1_costs_30 ?_ ?_
      · refine G_iconst (pc := 37) dX1_costs_37 ?_
        refine G_fg (lv2 := [vR a0, vI a1, vU, vU, vI a4]) ⟨Or.inr rfl, Or.inr rfl, Or.inl rfl, Or.inl rfl, Or.inr rfl, trivial⟩ ?_
        exact gX1_costs_J38 hst fu s2 a0 a1 a4 a2 x3 a1 0 _ _ (fun w v2 v4 => ih w v2 v4) hk
      · refine G_iconst (pc := 33) dX1_costs_33 ?_
        refine G_goto (tgt := 38) (pc := 34) dX1_costs_34 ?_
        refine G_fg (lv2 := [vR a0, vI a1, vU, vU, vI a4]) ⟨Or.inr rfl, Or.inr rfl, Or.inl rfl, Or.inl rfl, Or.inr rfl, trivial⟩ ?_
        exact gX1_costs_J38 hst fu s2 a0 a1 a4 a2 x3 a1 1 _ _ (fun w v2 v4 => ih w v2 v4) hk
def fX1_costs (fu : Nat) (s : z_M) (a0 : Int) (a1 : Int) : z_O := fX1_costs_L5 fu a0 a1 fu s 0 0 (fun s10 x11 => some (vL x11, s10))
theorem gX1_costs {l : Launch} {K : z_K} (hst : l.stackTraces = false) (fu : Nat) (s : z_M) (a0 : Int) (a1 : Int) : z_D l K mX1_costs 5 123 0 0 [vR a0, vI a1] s (fX1_costs fu s a0 a1) := by
  refine z_D_of (lv := [vR a0, vI a1, vU, vU, vU]) hst z_mX1_costs rfl ?_ (Nat.le_of_ble_eq_true rfl) rfl
  unfold fX1_costs
  refine G_lconst (y := 0) (pc := 0) dX1_costs_0 ?_
  refine G_lstore_n (lv' := [vR a0, vI a1, vL 0, vU, vU]) (pc := 1) dX1_costs_1 rfl ?_
  refine G_iconst (pc := 2) dX1_costs_2 ?_
  refine G_istore (lv' := [vR a0, vI a1, vL 0, vU, vI 0]) (pc := 3) dX1_costs_3 rfl ?_
  refine gX1_costs_L5 hst fu a0 a1 _ (fun s10 x11 => ?_) fu s 0 0
  refine G_lload_n (x := x11) (pc := 49) dX1_costs_49 rfl ?_
  exact G_lret (pc := 50) dX1_costs_50
def fX11_better (fu : Nat) (s : z_M) (a0 : Int) : z_O := if z_ob a0 11 then z_bN (fX11_refresh fu s a0) (fun s1 => if z_ob a0 11 then z_let (z_gr a0 0) (fun x2 => if z_ob x2 7 then z_bI (fX7_get fu s1 x2 0) (fun x4 s3 => if z_ob a0 11 then z_let (z_gr a0 9) (fun x5 => if z_ob x5 1 then z_bN (fX1_go fu s3 x5 x4 0) (fun s6 => if z_ob a0 11 then z_let (z_gr a0 9) (fun x7 => if z_ob x7 1 then z_bL (fX1_costs fu s6 x7 x4) (fun x9 s8 => if z_ob a0 11 then z_let (z_gr a0 9) (fun x10 => if z_ob x10 1 then z_bN (fX1_go fu s8 x10 x4 1) (fun s11 => if z_ob a0 11 then z_let (z_gr a0 9) (fun x12 => if z_ob x12 1 then z_bL (fX1_costs fu s11 x12 x4) (fun x14 s13 => z_let (z_wl (x9 - x14)) (fun x15 => some (vL x15, s13))) else none) else none) else none) else none) else none) else none) else none) else none) else none) else none) else none
theorem gX11_better {l : Launch} {K : z_K} (hst : l.stackTraces = false) (fu : Nat) (s : z_M) (a0 : Int) : z_D l K mX11_better 7 172 0 0 [vR a0] s (fX11_better fu s a0) := by
  refine z_D_of (lv := [vR a0, vU, vU, vU]) hst z_mX11_better rfl ?_ (Nat.le_of_ble_eq_true rfl) rfl
  unfold fX11_better
  refine G_aload_n (x := a0) (pc := 0) dX11_better_0 rfl ?_
  refine G_callVN (as := []) (st := []) (c := 11) (bc2 := 0) (bs2 := 0) (pc := 1) dX11_better_1 z_mX11_refresh z_vX11_refresh z_wX11_124 (gX11_refresh hst fu s a0) rfl rfl (by decide) rfl rfl ⟨by decide, by decide, by decide, by decide, Nat.le_of_ble_eq_true rfl⟩ rfl (fun s1 => ?_)
  refine G_aload_n (x := a0) (pc := 4) dX11_better_4 rfl ?_
  refine G_getR (j := 0) (pc := 5) dX11_better_5 rfl z_CLX11 (by decide) z_wX11_18 (by decide) (fun x2 => ?_)
  refine G_iconst (pc := 8) dX11_better_8 ?_
  refine G_callVI (as := [vI 0]) (st := []) (c := 7) (bc2 := 0) (bs2 := 0) (pc := 9) dX11_better_9 z_mX7_get z_vX7_get z_wX11_143 (gX7_get hst fu s1 x2 0) rfl rfl (by decide) rfl rfl ⟨by decide, by decide, by decide, by decide, Nat.le_of_ble_eq_true rfl⟩ rfl (fun x4 s3 => ?_)
  refine G_istore_n (lv' := [vR a0, vI x4, vU, vU]) (pc := 12) dX11_better_12 rfl ?_
  refine G_aload_n (x := a0) (pc := 13) dX11_better_13 rfl ?_
  refine G_getR (j := 9) (pc := 14) dX11_better_14 rfl z_CLX11 (by decide) z_wX11_78 (by decide) (fun x5 => ?_)
  refine G_iload_n (x := x4) (pc := 17) dX11_better_17 rfl ?_
  refine G_iconst (pc := 18) dX11_better_18 ?_
  refine G_callVN (as := [vI x4, vI 0]) (st := []) (c := 1) (bc2 := 0) (bs2 := 0) (pc := 19) dX11_better_19 z_mX1_go z_vX1_go z_wX11_296 (gX1_go hst fu s3 x5 x4 0) rfl rfl (by decide) rfl rfl ⟨by decide, by decide, by decide, by decide, Nat.le_of_ble_eq_true rfl⟩ rfl (fun s6 => ?_)
  refine G_aload_n (x := a0) (pc := 22) dX11_better_22 rfl ?_
  refine G_getR (j := 9) (pc := 23) dX11_better_23 rfl z_CLX11 (by decide) z_wX11_78 (by decide) (fun x7 => ?_)
  refine G_iload_n (x := x4) (pc := 26) dX11_better_26 rfl ?_
  refine G_callVL (as := [vI x4]) (st := []) (c := 1) (bc2 := 0) (bs2 := 0) (pc := 27) dX11_better_27 z_mX1_costs z_vX1_costs z_wX11_181 (gX1_costs hst fu s6 x7 x4) rfl rfl (by decide) rfl rfl ⟨by decide, by decide, by decide, by decide, Nat.le_of_ble_eq_true rfl⟩ rfl (fun x9 s8 => ?_)
  refine G_lstore_n (lv' := [vR a0, vI x4, vL x9, vU]) (pc := 30) dX11_better_30 rfl ?_
  refine G_aload_n (x := a0) (pc := 31) dX11_better_31 rfl ?_
  refine G_getR (j := 9) (pc := 32) dX11_better_32 rfl z_CLX11 (by decide) z_wX11_78 (by decide) (fun x10 => ?_)
  refine G_iload_n (x := x4) (pc := 35) dX11_better_35 rfl ?_
  refine G_iconst (pc := 36) dX11_better_36 ?_
  refine G_callVN (as := [vI x4, vI 1]) (st := []) (c := 1) (bc2 := 0) (bs2 := 0) (pc := 37) dX11_better_37 z_mX1_go z_vX1_go z_wX11_296 (gX1_go hst fu s8 x10 x4 1) rfl rfl (by decide) rfl rfl ⟨by decide, by decide, by decide, by decide, Nat.le_of_ble_eq_true rfl⟩ rfl (fun s11 => ?_)
  refine G_lload_n (x := x9) (pc := 40) dX11_better_40 rfl ?_
  refine G_aload_n (x := a0) (pc := 41) dX11_better_41 rfl ?_
  refine G_getR (j := 9) (pc := 42) dX11_better_42 rfl z_CLX11 (by decide) z_wX11_78 (by decide) (fun x12 => ?_)
  refine G_iload_n (x := x4) (pc := 45) dX11_better_45 rfl ?_
  refine G_callVL (as := [vI x4]) (st := [vL x9]) (c := 1) (bc2 := 0) (bs2 := 0) (pc := 46) dX11_better_46 z_mX1_costs z_vX1_costs z_wX11_181 (gX1_costs hst fu s11 x12 x4) rfl rfl (by decide) rfl rfl ⟨by decide, by decide, by decide, by decide, Nat.le_of_ble_eq_true rfl⟩ rfl (fun x14 s13 => ?_)
  refine G_lsub (pc := 49) dX11_better_49 (fun x15 => ?_)
  exact G_lret (pc := 50) dX11_better_50
def fX1_movedFrom_J64 (fu : Nat) (s : z_M) (a0 : Int) (a1 : Int) (a3 : Int) (a4 : Int) (t0 : Int) (t1 : Int) (r : z_M → Int → Int → z_O) (k : z_M → Int → z_O) : z_O := z_let (z_w (t0 + t1)) (fun x15 => z_let (z_w (a4 + 1)) (fun x16 => r s x15 x16))
theorem gX1_movedFrom_J64 {l : Launch} {K : z_K} (hst : l.stackTraces = false) (fu : Nat) (s : z_M) (a0 : Int) (a1 : Int) (a3 : Int) (a4 : Int) (t0 : Int) (t1 : Int) (r : z_M → Int → Int → z_O) (k : z_M → Int → z_O) (hr : ∀ (s : z_M) (a2 : Int) (a4 : Int), G l K mX1_movedFrom 1 21 0 0 22 [vR a0, vR a1, vI a2, vI a3, vI a4] [] s (r s a2 a4)) (hk : ∀ (s : z_M) (a2 : Int), G l K mX1_movedFrom 1 21 0 0 72 [vR a0, vR a1, vI a2, vI a3, vU] [] s (k s a2)) : G l K mX1_movedFrom 1 21 0 0 64 [vR a0, vR a1, vU, vI a3, vI a4] [vI t1, vI t0] s (fX1_movedFrom_J64 fu s a0 a1 a3 a4 t0 t1 r k) := by
  unfold fX1_movedFrom_J64
  refine G_iadd (pc := 64) dX1_movedFrom_64 (fun x15 => ?_)
  refine G_istore_n (lv' := [vR a0, vR a1, vI x15, vI a3, vI a4]) (pc := 65) dX1_movedFrom_65 rfl ?_
  refine G_iinc (x := a4) (g := fun x16 => [vR a0, vR a1, vI x15, vI a3, vI x16]) (pc := 66) dX1_movedFrom_66 rfl (fun _ => rfl) (fun x16 => ?_)
  refine G_goto (tgt := 22) (pc := 69) dX1_movedFrom_69 ?_
  exact hr s x15 x16
def fX1_movedFrom_L22 (fu : Nat) (a0 : Int) (a1 : Int) (a3 : Int) : Nat → z_M → Int → Int → (z_M → Int → z_O) → z_O
  | 0, _, _, _, _ => none
  | F + 1, s, a2, a4, k => if z_ob a0 1 then z_let (z_gr a0 5) (fun x5 => z_let (z_w (a3 + 1)) (fun x6 => if z_ob x5 7 then z_bI (fX7_get fu s x5 x6) (fun x8 s7 => if (x8 : Int) ≤ a4 then (k s7 a2) else (if z_ob a1 7 then z_bI (fX7_get fu s7 a1 a4) (fun x10 s9 => if (x10 : Int) ≠ a3 then (if z_ob a0 1 then z_let (z_gr a0 0) (fun x11 => if z_ob x11 10 then z_let (z_gr x11 4) (fun x12 => if z_ob x12 7 then z_bI (fX7_get fu s9 x12 a4) (fun x14 s13 => fX1_movedFrom_J64 fu s13 a0 a1 a3 a4 a2 x14 (fun w v2 v4 => fX1_movedFrom_L22 fu a0 a1 a3 F w v2 v4 k) k) else none) else none) else none) else (fX1_movedFrom_J64 fu s9 a0 a1 a3 a4 a2 0 (fun w v2 v4 => fX1_movedFrom_L22 fu a0 a1 a3 F w v2 v4 k) k)) else none)) else none)) else none
theorem gX1_movedFrom_L22 {l : Launch} {K : z_K} (hst : l.stackTraces = false) (fu : Nat) (a0 : Int) (a1 : Int) (a3 : Int) (k : z_M → Int → z_O) (hk : ∀ (s : z_M) (a2 : Int), G l K mX1_movedFrom 1 21 0 0 72 [vR a0, vR a1, vI a2, vI a3, vU] [] s (k s a2)) : ∀ (F : Nat) (s : z_M) (a2 : Int) (a4 : Int), G l K mX1_movedFrom 1 21 0 0 22 [vR a0, vR a1, vI a2, vI a3, vI a4] [] s (fX1_movedFrom_L22 fu a0 a1 a3 F s a2 a4 k) := by
  intro F
  induction F with
  | zero => exact fun s a2 a4 h => absurd rfl h
  | succ F ih =>
    intro s a2 a4
    rw [fX1_movedFrom_L22]
    refine G_iload (x := a4) (pc := 22) dX1_movedFrom_22 rfl ?_
    refine G_aload_n (x := a0) (pc := 24) dX1_movedFrom_24 rfl ?_
    refine G_getR (j := 5) (pc := 25) dX1_movedFrom_25 rfl z_CLX1 (by decide) z_wX1_30 (by decide) (fun x5 => ?_)
    refine G_iload_n (x := a3) (pc := 28) dX1_movedFrom_28 rfl ?_
    refine G_iconst (pc := 29) dX1_movedFrom_29 ?_
    refine G_iadd (pc := 30) dX1_movedFrom_30 (fun x6 => ?_)
    refine G_callVI (as := [vI x6]) (st := [vI a4]) (c := 7) (bc2 := 0) (bs2 := 0) (pc := 31) dX1_movedFrom_31 z_mX7_get z_vX7_get z_wX1_55 (gX7_get hst fu s x5 x6) rfl rfl (by decide) rfl rfl ⟨by decide, by decide, by decide, by decide, Nat.le_of_ble_eq_true rfl⟩ rfl (fun x8 s7 => ?_)
    refine G_icmp_ge (tgt := 72) (pc := 34) dX1_movedFrom_34 ?_ ?_
    · refine G_fg (lv2 := [vR a0, vR a1, vI a2, vI a3, vU]) ⟨Or.inr rfl, Or.inr rfl, Or.inr rfl, Or.inr rfl, Or.inl rfl, trivial⟩ ?_
      exact hk s7 a2
    · refine G_iload_n (x := a2) (pc := 37) dX1_movedFrom_37 rfl ?_
      refine G_aload_n (x := a1) (pc := 38) dX1_movedFrom_38 rfl ?_
      refine G_iload (x := a4) (pc := 39) dX1_movedFrom_39 rfl ?_
      refine G_callVI (as := [vI a4]) (st := [vI a2]) (c := 7) (bc2 := 0) (bs2 := 0) (pc := 41) dX1_movedFrom_41 z_mX7_get z_vX7_get z_wX1_55 (gX7_get hst fu s7 a1 a4) rfl rfl (by decide) rfl rfl ⟨by decide, by decide, by decide, by decide, Nat.le_of_ble_eq_true rfl⟩ rfl (fun x10 s9 => ?_)
      refine G_iload_n (x := a3) (pc := 44) dX1_movedFrom_44 rfl ?_
      refine G_icmp_ne (tgt := 52) (pc := 45) dX1_movedFrom_45 ?_ ?_
      · refine G_aload_n (x := a0) (pc := 52) dX1_movedFrom_52 rfl ?_
        refine G_getR (j := 0) (pc := 53) dX1_movedFrom_53 rfl z_CLX1 (by decide) z_wX1_33 (by decide) (fun x11 => ?_)
        refine G_getR (j := 4) (pc := 56) dX1_movedFrom_56 rfl z_CLX10 (by decide) z_wX1_100 (by decide) (fun x12 => ?_)
        refine G_iload (x := a4) (pc := 59) dX1_movedFrom_59 rfl ?_
        refine G_callVI (as := [vI a4]) (st := [vI a2]) (c := 7) (bc2 := 0) (bs2 := 0) (pc := 61) dX1_movedFrom_61 z_mX7_get z_vX7_get z_wX1_55 (gX7_get hst fu s9 x12 a4) rfl rfl (by decide) rfl rfl ⟨by decide, by decide, by decide, by decide, Nat.le_of_ble_eq_true rfl⟩ rfl (fun x14 s13 => ?_)
        refine G_fg (lv2 := [vR a0, vR a1, vU, vI a3, vI a4]) ⟨Or.inr rfl, Or.inr rfl, Or.inl rfl, Or.inr rfl, Or.inr rfl, trivial⟩ ?_
        exact gX1_movedFrom_J64 hst fu s13 a0 a1 a3 a4 a2 x14 _ _ (fun w v2 v4 => ih w v2 v4) hk
      · refine G_iconst (pc := 48) dX1_movedFrom_48 ?_
        refine G_goto (tgt := 64) (pc := 49) dX1_movedFrom_49 ?_
        refine G_fg (lv2 := [vR a0, vR a1, vU, vI a3, vI a4]) ⟨Or.inr rfl, Or.inr rfl, Or.inl rfl, Or.inr rfl, Or.inr rfl, trivial⟩ ?_
        exact gX1_movedFrom_J64 hst fu s9 a0 a1 a3 a4 a2 0 _ _ (fun w v2 v4 => ih w v2 v4) hk
def fX1_movedFrom_L4 (fu : Nat) (a0 : Int) (a1 : Int) : Nat → z_M → Int → Int → (z_M → Int → z_O) → z_O
  | 0, _, _, _, _ => none
  | F + 1, s, a2, a3, k => if z_ob a0 1 then z_let (s a0 6) (fun x1 => if (x1 : Int) ≤ a3 then (k s a2) else (if z_ob a0 1 then z_let (z_gr a0 5) (fun x2 => if z_ob x2 7 then z_bI (fX7_get fu s x2 a3) (fun x4 s3 => fX1_movedFrom_L22 fu a0 a1 a3 fu s3 a2 x4 (fun s17 x18 => z_let (z_w (a3 + 1)) (fun x19 => fX1_movedFrom_L4 fu a0 a1 F s17 x18 x19 k))) else none) else none)) else none
theorem gX1_movedFrom_L4 {l : Launch} {K : z_K} (hst : l.stackTraces = false) (fu : Nat) (a0 : Int) (a1 : Int) (k : z_M → Int → z_O) (hk : ∀ (s : z_M) (a2 : Int), G l K mX1_movedFrom 1 21 0 0 78 [vU, vU, vI a2, vU, vU] [] s (k s a2)) : ∀ (F : Nat) (s : z_M) (a2 : Int) (a3 : Int), G l K mX1_movedFrom 1 21 0 0 4 [vR a0, vR a1, vI a2, vI a3, vU] [] s (fX1_movedFrom_L4 fu a0 a1 F s a2 a3 k) := by
  intro F
  induction F with
  | zero => exact fun s a2 a3 h => absurd rfl h
  | succ F ih =>
    intro s a2 a3
    rw [fX1_movedFrom_L4]
    refine G_iload_n (x := a3) (pc := 4) dX1_movedFrom_4 rfl ?_
    refine G_aload_n (x := a0) (pc := 5) dX1_movedFrom_5 rfl ?_
    refine G_getI (j := 6) (pc := 6) dX1_movedFrom_6 rfl z_CLX1 (by decide) z_wX1_44 (by decide) (fun x1 => ?_)
    refine G_icmp_ge (tgt := 78) (pc := 9) dX1_movedFrom_9 ?_ ?_
    · refine G_fg (lv2 := [vU, vU, vI a2, vU, vU]) ⟨Or.inl rfl, Or.inl rfl, Or.inr rfl, Or.inl rfl, Or.inl rfl, trivial⟩ ?_
      exact hk s a2
    · refine G_aload_n (x := a0) (pc := 12) dX1_movedFrom_12 rfl ?_
      refine G_getR (j := 5) (pc := 13) dX1_movedFrom_13 rfl z_CLX1 (by decide) z_wX1_30 (by decide) (fun x2 => ?_)
      refine G_iload_n (x := a3) (pc := 16) dX1_movedFrom_16 rfl ?_
      refine G_callVI (as := [vI a3]) (st := []) (c := 7) (bc2 := 0) (bs2 := 0) (pc := 17) dX1_movedFrom_17 z_mX7_get z_vX7_get z_wX1_55 (gX7_get hst fu s x2 a3) rfl rfl (by decide) rfl rfl ⟨by decide, by decide, by decide, by decide, Nat.le_of_ble_eq_true rfl⟩ rfl (fun x4 s3 => ?_)
      refine G_istore (lv' := [vR a0, vR a1, vI a2, vI a3, vI x4]) (pc := 20) dX1_movedFrom_20 rfl ?_
      refine gX1_movedFrom_L22 hst fu a0 a1 a3 _ (fun s17 x18 => ?_) fu s3 a2 x4
      refine G_iinc (x := a3) (g := fun x19 => [vR a0, vR a1, vI x18, vI x19, vU]) (pc := 72) dX1_movedFrom_72 rfl (fun _ => rfl) (fun x19 => ?_)
      refine G_goto (tgt := 4) (pc := 75) dX1_movedFrom_75 ?_
      exact ih s17 x18 x19
def fX1_movedFrom (fu : Nat) (s : z_M) (a0 : Int) (a1 : Int) : z_O := fX1_movedFrom_L4 fu a0 a1 fu s 0 0 (fun s20 x21 => some (vI x21, s20))
theorem gX1_movedFrom {l : Launch} {K : z_K} (hst : l.stackTraces = false) (fu : Nat) (s : z_M) (a0 : Int) (a1 : Int) : z_D l K mX1_movedFrom 1 21 0 0 [vR a0, vR a1] s (fX1_movedFrom fu s a0 a1) := by
  refine z_D_of (lv := [vR a0, vR a1, vU, vU, vU]) hst z_mX1_movedFrom rfl ?_ (Nat.le_of_ble_eq_true rfl) rfl
  unfold fX1_movedFrom
  refine G_iconst (pc := 0) dX1_movedFrom_0 ?_
  refine G_istore_n (lv' := [vR a0, vR a1, vI 0, vU, vU]) (pc := 1) dX1_movedFrom_1 rfl ?_
  refine G_iconst (pc := 2) dX1_movedFrom_2 ?_
  refine G_istore_n (lv' := [vR a0, vR a1, vI 0, vI 0, vU]) (pc := 3) dX1_movedFrom_3 rfl ?_
  refine gX1_movedFrom_L4 hst fu a0 a1 _ (fun s20 x21 => ?_) fu s 0 0
  refine G_iload_n (x := x21) (pc := 78) dX1_movedFrom_78 rfl ?_
  exact G_iret (pc := 79) dX1_movedFrom_79
def fX11_moves (fu : Nat) (s : z_M) (a0 : Int) : z_O := if z_ob a0 11 then z_bN (fX11_refresh fu s a0) (fun s1 => if z_ob a0 11 then z_let (z_gr a0 0) (fun x2 => if z_ob a0 11 then z_let (z_gr a0 0) (fun x3 => if z_ob x3 7 then z_bI (fX7_get fu s1 x3 5) (fun x5 s4 => z_let (z_w (1 - x5)) (fun x6 => if z_ob x2 7 then z_bN (fX7_put fu s4 x2 5 x6) (fun s7 => if z_ob a0 11 then z_let (z_gr a0 6) (fun x8 => if z_ob x8 10 then z_bN (fX10_build fu s7 x8) (fun s9 => if z_ob a0 11 then z_let (z_gr a0 7) (fun x10 => if z_ob x10 5 then z_bN (fX5_forget fu s9 x10) (fun s11 => if z_ob a0 11 then z_let (z_gr a0 9) (fun x12 => if z_ob a0 11 then z_let (z_gr a0 0) (fun x13 => if z_ob x13 7 then z_bI (fX7_get fu s11 x13 0) (fun x15 s14 => if z_ob a0 11 then z_let (z_gr a0 0) (fun x16 => if z_ob x16 7 then z_bI (fX7_get fu s14 x16 3) (fun x18 s17 => if z_ob x12 1 then z_bN (fX1_go fu s17 x12 x15 x18) (fun s19 => if z_ob a0 11 then z_let (z_gr a0 9) (fun x20 => if z_ob a0 11 then z_let (z_gr a0 10) (fun x21 => if z_ob x21 3 then z_let (z_gr x21 6) (fun x22 => if z_ob x20 1 then z_bI (fX1_movedFrom fu s19 x20 x22) (fun x24 s23 => if z_ob a0 11 then z_let (z_gr a0 0) (fun x25 => if z_ob a0 11 then z_let (z_gr a0 0) (fun x26 => if z_ob x26 7 then z_bI (fX7_get fu s23 x26 5) (fun x28 s27 => z_let (z_w (1 - x28)) (fun x29 => if z_ob x25 7 then z_bN (fX7_put fu s27 x25 5 x29) (fun s30 => if z_ob a0 11 ∧ z_bl 0 then z_let (z_up s30 a0 16 0) (fun s31 => some (vI x24, s31)) else none) else none)) else none) else none) else none) else none) else none) else none) else none) else none) else none) else none) else none) else none) else none) else none) else none) else none) else none) else none)) else none) else none) else none) else none
theorem gX11_moves {l : Launch} {K : z_K} (hst : l.stackTraces = false) (fu : Nat) (s : z_M) (a0 : Int) : z_D l K mX11_moves 7 172 0 0 [vR a0] s (fX11_moves fu s a0) := by
  refine z_D_of (lv := [vR a0, vU]) hst z_mX11_moves rfl ?_ (Nat.le_of_ble_eq_true rfl) rfl
  unfold fX11_moves
  refine G_aload_n (x := a0) (pc := 0) dX11_moves_0 rfl ?_
  refine G_callVN (as := []) (st := []) (c := 11) (bc2 := 0) (bs2 := 0) (pc := 1) dX11_moves_1 z_mX11_refresh z_vX11_refresh z_wX11_124 (gX11_refresh hst fu s a0) rfl rfl (by decide) rfl rfl ⟨by decide, by decide, by decide, by decide, Nat.le_of_ble_eq_true rfl⟩ rfl (fun s1 => ?_)
  refine G_aload_n (x := a0) (pc := 4) dX11_moves_4 rfl ?_
  refine G_getR (j := 0) (pc := 5) dX11_moves_5 rfl z_CLX11 (by decide) z_wX11_18 (by decide) (fun x2 => ?_)
  refine G_iconst (pc := 8) dX11_moves_8 ?_
  refine G_iconst (pc := 9) dX11_moves_9 ?_
  refine G_aload_n (x := a0) (pc := 10) dX11_moves_10 rfl ?_
  refine G_getR (j := 0) (pc := 11) dX11_moves_11 rfl z_CLX11 (by decide) z_wX11_18 (by decide) (fun x3 => ?_)
  refine G_iconst (pc := 14) dX11_moves_14 ?_
  refine G_callVI (as := [vI 5]) (st := [vI 1, vI 5, vR x2]) (c := 7) (bc2 := 0) (bs2 := 0) (pc := 15) dX11_moves_15 z_mX7_get z_vX7_get z_wX11_143 (gX7_get hst fu s1 x3 5) rfl rfl (by decide) rfl rfl ⟨by decide, by decide, by decide, by decide, Nat.le_of_ble_eq_true rfl⟩ rfl (fun x5 s4 => ?_)
  refine G_isub (pc := 18) dX11_moves_18 (fun x6 => ?_)
  refine G_callVN (as := [vI 5, vI x6]) (st := []) (c := 7) (bc2 := 0) (bs2 := 0) (pc := 19) dX11_moves_19 z_mX7_put z_vX7_put z_wX11_103 (gX7_put hst fu s4 x2 5 x6) rfl rfl (by decide) rfl rfl ⟨by decide, by decide, by decide, by decide, Nat.le_of_ble_eq_true rfl⟩ rfl (fun s7 => ?_)
  refine G_aload_n (x := a0) (pc := 22) dX11_moves_22 rfl ?_
  refine G_getR (j := 6) (pc := 23) dX11_moves_23 rfl z_CLX11 (by decide) z_wX11_56 (by decide) (fun x8 => ?_)
  refine G_callVN (as := []) (st := []) (c := 10) (bc2 := 0) (bs2 := 0) (pc := 26) dX11_moves_26 z_mX10_build z_vX10_build z_wX11_305 (gX10_build hst fu s7 x8) rfl rfl (by decide) rfl rfl ⟨by decide, by decide, by decide, by decide, Nat.le_of_ble_eq_true rfl⟩ rfl (fun s9 => ?_)
  refine G_aload_n (x := a0) (pc := 29) dX11_moves_29 rfl ?_
  refine G_getR (j := 7) (pc := 30) dX11_moves_30 rfl z_CLX11 (by decide) z_wX11_65 (by decide) (fun x10 => ?_)
  refine G_callVN (as := []) (st := []) (c := 5) (bc2 := 0) (bs2 := 0) (pc := 33) dX11_moves_33 z_mX5_forget z_vX5_forget z_wX11_308 (gX5_forget hst fu s9 x10) rfl rfl (by decide) rfl rfl ⟨by decide, by decide, by decide, by decide, Nat.le_of_ble_eq_true rfl⟩ rfl (fun s11 => ?_)
  refine G_aload_n (x := a0) (pc := 36) dX11_moves_36 rfl ?_
  refine G_getR (j := 9) (pc := 37) dX11_moves_37 rfl z_CLX11 (by decide) z_wX11_78 (by decide) (fun x12 => ?_)
  refine G_aload_n (x := a0) (pc := 40) dX11_moves_40 rfl ?_
  refine G_getR (j := 0) (pc := 41) dX11_moves_41 rfl z_CLX11 (by decide) z_wX11_18 (by decide) (fun x13 => ?_)
  refine G_iconst (pc := 44) dX11_moves_44 ?_
  refine G_callVI (as := [vI 0]) (st := [vR x12]) (c := 7) (bc2 := 0) (bs2 := 0) (pc := 45) dX11_moves_45 z_mX7_get z_vX7_get z_wX11_143 (gX7_get hst fu s11 x13 0) rfl rfl (by decide) rfl rfl ⟨by decide, by decide, by decide, by decide, Nat.le_of_ble_eq_true rfl⟩ rfl (fun x15 s14 => ?_)
  refine G_aload_n (x := a0) (pc := 48) dX11_moves_48 rfl ?_
  refine G_getR (j := 0) (pc := 49) dX11_moves_49 rfl z_CLX11 (by decide) z_wX11_18 (by decide) (fun x16 => ?_)
  refine G_iconst (pc := 52) dX11_moves_52 ?_
  refine G_callVI (as := [vI 3]) (st := [vI x15, vR x12]) (c := 7) (bc2 := 0) (bs2 := 0) (pc := 53) dX11_moves_53 z_mX7_get z_vX7_get z_wX11_143 (gX7_get hst fu s14 x16 3) rfl rfl (by decide) rfl rfl ⟨by decide, by decide, by decide, by decide, Nat.le_of_ble_eq_true rfl⟩ rfl (fun x18 s17 => ?_)
  refine G_callVN (as := [vI x15, vI x18]) (st := []) (c := 1) (bc2 := 0) (bs2 := 0) (pc := 56) dX11_moves_56 z_mX1_go z_vX1_go z_wX11_296 (gX1_go hst fu s17 x12 x15 x18) rfl rfl (by decide) rfl rfl ⟨by decide, by decide, by decide, by decide, Nat.le_of_ble_eq_true rfl⟩ rfl (fun s19 => ?_)
  refine G_aload_n (x := a0) (pc := 59) dX11_moves_59 rfl ?_
  refine G_getR (j := 9) (pc := 60) dX11_moves_60 rfl z_CLX11 (by decide) z_wX11_78 (by decide) (fun x20 => ?_)
  refine G_aload_n (x := a0) (pc := 63) dX11_moves_63 rfl ?_
  refine G_getR (j := 10) (pc := 64) dX11_moves_64 rfl z_CLX11 (by decide) z_wX11_86 (by decide) (fun x21 => ?_)
  refine G_getR (j := 6) (pc := 67) dX11_moves_67 rfl z_CLX3 (by decide) z_wX11_201 (by decide) (fun x22 => ?_)
  refine G_callVI (as := [vR x22]) (st := []) (c := 1) (bc2 := 0) (bs2 := 0) (pc := 70) dX11_moves_70 z_mX1_movedFrom z_vX1_movedFrom z_wX11_311 (gX1_movedFrom hst fu s19 x20 x22) rfl rfl (by decide) rfl rfl ⟨by decide, by decide, by decide, by decide, Nat.le_of_ble_eq_true rfl⟩ rfl (fun x24 s23 => ?_)
  refine G_istore_n (lv' := [vR a0, vI x24]) (pc := 73) dX11_moves_73 rfl ?_
  refine G_aload_n (x := a0) (pc := 74) dX11_moves_74 rfl ?_
  refine G_getR (j := 0) (pc := 75) dX11_moves_75 rfl z_CLX11 (by decide) z_wX11_18 (by decide) (fun x25 => ?_)
  refine G_iconst (pc := 78) dX11_moves_78 ?_
  refine G_iconst (pc := 79) dX11_moves_79 ?_
  refine G_aload_n (x := a0) (pc := 80) dX11_moves_80 rfl ?_
  refine G_getR (j := 0) (pc := 81) dX11_moves_81 rfl z_CLX11 (by decide) z_wX11_18 (by decide) (fun x26 => ?_)
  refine G_iconst (pc := 84) dX11_moves_84 ?_
  refine G_callVI (as := [vI 5]) (st := [vI 1, vI 5, vR x25]) (c := 7) (bc2 := 0) (bs2 := 0) (pc := 85) dX11_moves_85 z_mX7_get z_vX7_get z_wX11_143 (gX7_get hst fu s23 x26 5) rfl rfl (by decide) rfl rfl ⟨by decide, by decide, by decide, by decide, Nat.le_of_ble_eq_true rfl⟩ rfl (fun x28 s27 => ?_)
  refine G_isub (pc := 88) dX11_moves_88 (fun x29 => ?_)
  refine G_callVN (as := [vI 5, vI x29]) (st := []) (c := 7) (bc2 := 0) (bs2 := 0) (pc := 89) dX11_moves_89 z_mX7_put z_vX7_put z_wX11_103 (gX7_put hst fu s27 x25 5 x29) rfl rfl (by decide) rfl rfl ⟨by decide, by decide, by decide, by decide, Nat.le_of_ble_eq_true rfl⟩ rfl (fun s30 => ?_)
  refine G_aload_n (x := a0) (pc := 92) dX11_moves_92 rfl ?_
  refine G_iconst (pc := 93) dX11_moves_93 ?_
  refine G_putZ (j := 16) (pc := 94) dX11_moves_94 rfl z_CLX11 (by decide) z_wX11_150 rfl (by decide) (fun s31 => ?_)
  refine G_iload_n (x := x24) (pc := 97) dX11_moves_97 rfl ?_
  exact G_iret (pc := 98) dX11_moves_98
def fX11_status_J24 (fu : Nat) (s : z_M) (t0 : Int) : z_O := some (vI t0, s)
theorem gX11_status_J24 {l : Launch} {K : z_K} (hst : l.stackTraces = false) (fu : Nat) (s : z_M) (t0 : Int) : G l K mX11_status 0 0 0 0 24 [vU, vU] [vI t0] s (fX11_status_J24 fu s t0) := by
  unfold fX11_status_J24
  exact G_iret (pc := 24) dX11_status_24
def fX11_status (fu : Nat) (s : z_M) (a0 : Int) (a1 : Int) : z_O := if (a1 : Int) ≠ 0 then (if (a1 : Int) ≠ 1 then (fX11_status_J24 fu s (-1)) else (if z_ob a0 11 then z_let (s a0 15) (fun x1 => fX11_status_J24 fu s x1) else none)) else (if z_ob a0 11 then z_let (s a0 14) (fun x2 => fX11_status_J24 fu s x2) else none)
theorem gX11_status {l : Launch} {K : z_K} (hst : l.stackTraces = false) (fu : Nat) (s : z_M) (a0 : Int) (a1 : Int) : z_D l K mX11_status 0 0 0 0 [vR a0, vI a1] s (fX11_status fu s a0 a1) := by
  refine z_D_of (lv := [vR a0, vI a1]) hst z_mX11_status rfl ?_ (Nat.le_of_ble_eq_true rfl) rfl
  unfold fX11_status
  refine G_iload_n (x := a1) (pc := 0) dX11_status_0 rfl ?_
  refine G_if_ne (tgt := 11) (pc := 1) dX11_status_1 ?_ ?_
  · refine G_iload_n (x := a1) (pc := 11) dX11_status_11 rfl ?_
    refine G_iconst (pc := 12) dX11_status_12 ?_
    refine G_icmp_ne (tgt := 23) (pc := 13) dX11_status_13 ?_ ?_
    · refine G_iconst (pc := 23) dX11_status_23 ?_
      refine G_fg (lv2 := [vU, vU]) ⟨Or.inl rfl, Or.inl rfl, trivial⟩ ?_
      exact gX11_status_J24 hst fu s (-1)
    · refine G_aload_n (x := a0) (pc := 16) dX11_status_16 rfl ?_
      refine G_getI (j := 15) (pc := 17) dX11_status_17 rfl z_CLX11 (by decide) z_wX11_356 (by decide) (fun x1 => ?_)
      refine G_goto (tgt := 24) (pc := 20) dX11_status_20 ?_
      refine G_fg (lv2 := [vU, vU]) ⟨Or.inl rfl, Or.inl rfl, trivial⟩ ?_
      exact gX11_status_J24 hst fu s x1
  · refine G_aload_n (x := a0) (pc := 4) dX11_status_4 rfl ?_
    refine G_getI (j := 14) (pc := 5) dX11_status_5 rfl z_CLX11 (by decide) z_wX11_353 (by decide) (fun x2 => ?_)
    refine G_goto (tgt := 24) (pc := 8) dX11_status_8 ?_
    refine G_fg (lv2 := [vU, vU]) ⟨Or.inl rfl, Or.inl rfl, trivial⟩ ?_
    exact gX11_status_J24 hst fu s x2
def fX11_needWithin_J10 (fu : Nat) (s : z_M) (a0 : Int) : z_O := if z_ob a0 11 then z_let (s a0 15) (fun x1 => z_let (z_w (x1 + 1)) (fun x2 => if z_ob a0 11 then z_let (z_up s a0 15 x2) (fun s3 => some (vX 1, s3)) else none)) else none
theorem gX11_needWithin_J10 {l : Launch} {K : z_K} (hst : l.stackTraces = false) (fu : Nat) (s : z_M) (a0 : Int) : G l K mX11_needWithin 6 81 1 6 10 [vR a0, vU, vU, vU] [] s (fX11_needWithin_J10 fu s a0) := by
  unfold fX11_needWithin_J10
  refine G_aload_n (x := a0) (pc := 10) dX11_needWithin_10 rfl ?_
  refine G_dupR (pc := 11) dX11_needWithin_11 ?_
  refine G_getI (j := 15) (pc := 12) dX11_needWithin_12 rfl z_CLX11 (by decide) z_wX11_356 (by decide) (fun x1 => ?_)
  refine G_iconst (pc := 15) dX11_needWithin_15 ?_
  refine G_iadd (pc := 16) dX11_needWithin_16 (fun x2 => ?_)
  refine G_putI (j := 15) (pc := 17) dX11_needWithin_17 rfl z_CLX11 (by decide) z_wX11_356 rfl (by decide) (by decide) (fun s3 => ?_)
  exact G_throw (pc := 20) z_tokX11_1 dX11_needWithin_20 dX11_needWithin_23 dX11_needWithin_24 dX11_needWithin_27
def fX11_needWithin (fu : Nat) (s : z_M) (a0 : Int) (a1 : Int) (a2 : Int) (a3 : Int) : z_O := if (a1 : Int) < a2 then (fX11_needWithin_J10 fu s a0) else (if (a1 : Int) ≤ a3 then (some (vN, s)) else (fX11_needWithin_J10 fu s a0))
theorem gX11_needWithin {l : Launch} {K : z_K} (hst : l.stackTraces = false) (fu : Nat) (s : z_M) (a0 : Int) (a1 : Int) (a2 : Int) (a3 : Int) : z_D l K mX11_needWithin 6 81 1 6 [vR a0, vI a1, vI a2, vI a3] s (fX11_needWithin fu s a0 a1 a2 a3) := by
  refine z_D_of (lv := [vR a0, vI a1, vI a2, vI a3]) hst z_mX11_needWithin rfl ?_ (Nat.le_of_ble_eq_true rfl) rfl
  unfold fX11_needWithin
  refine G_iload_n (x := a1) (pc := 0) dX11_needWithin_0 rfl ?_
  refine G_iload_n (x := a2) (pc := 1) dX11_needWithin_1 rfl ?_
  refine G_icmp_lt (tgt := 10) (pc := 2) dX11_needWithin_2 ?_ ?_
  · refine G_fg (lv2 := [vR a0, vU, vU, vU]) ⟨Or.inr rfl, Or.inl rfl, Or.inl rfl, Or.inl rfl, trivial⟩ ?_
    exact gX11_needWithin_J10 hst fu s a0
  · refine G_iload_n (x := a1) (pc := 5) dX11_needWithin_5 rfl ?_
    refine G_iload_n (x := a3) (pc := 6) dX11_needWithin_6 rfl ?_
    refine G_icmp_le (tgt := 28) (pc := 7) dX11_needWithin_7 ?_ ?_
    · exact G_vret (pc := 28) dX11_needWithin_28
    · refine G_fg (lv2 := [vR a0, vU, vU, vU]) ⟨Or.inr rfl, Or.inl rfl, Or.inl rfl, Or.inl rfl, trivial⟩ ?_
      exact gX11_needWithin_J10 hst fu s a0
def fX9_clear (fu : Nat) (s : z_M) (a0 : Int) : z_O := if z_ob a0 9 then z_let (z_up s a0 6 0) (fun s1 => if z_ob a0 9 then z_let (z_up s1 a0 7 0) (fun s2 => if z_ob a0 9 then z_let (z_up s2 a0 8 0) (fun s3 => some (vN, s3)) else none) else none) else none
theorem gX9_clear {l : Launch} {K : z_K} (hst : l.stackTraces = false) (fu : Nat) (s : z_M) (a0 : Int) : z_D l K mX9_clear 0 0 0 0 [vR a0] s (fX9_clear fu s a0) := by
  refine z_D_of (lv := [vR a0]) hst z_mX9_clear rfl ?_ (Nat.le_of_ble_eq_true rfl) rfl
  unfold fX9_clear
  refine G_aload_n (x := a0) (pc := 0) dX9_clear_0 rfl ?_
  refine G_iconst (pc := 1) dX9_clear_1 ?_
  refine G_putI (j := 6) (pc := 2) dX9_clear_2 rfl z_CLX9 (by decide) z_wX9_39 rfl (by decide) (by decide) (fun s1 => ?_)
  refine G_aload_n (x := a0) (pc := 5) dX9_clear_5 rfl ?_
  refine G_iconst (pc := 6) dX9_clear_6 ?_
  refine G_putI (j := 7) (pc := 7) dX9_clear_7 rfl z_CLX9 (by decide) z_wX9_43 rfl (by decide) (by decide) (fun s2 => ?_)
  refine G_aload_n (x := a0) (pc := 10) dX9_clear_10 rfl ?_
  refine G_iconst (pc := 11) dX9_clear_11 ?_
  refine G_putI (j := 8) (pc := 12) dX9_clear_12 rfl z_CLX9 (by decide) z_wX9_46 rfl (by decide) (by decide) (fun s3 => ?_)
  exact G_vret (pc := 15) dX9_clear_15
def fX6_isSmall_J17 (fu : Nat) (s : z_M) (t0 : Int) : z_O := if z_bl t0 then some (vI t0, s) else none
theorem gX6_isSmall_J17 {l : Launch} {K : z_K} (hst : l.stackTraces = false) (fu : Nat) (s : z_M) (t0 : Int) : G l K mX6_isSmall 0 0 0 0 17 [vU] [vI t0] s (fX6_isSmall_J17 fu s t0) := by
  unfold fX6_isSmall_J17
  exact G_zret (pc := 17) dX6_isSmall_17
def fX6_isSmall_J16 (fu : Nat) (s : z_M) : z_O := fX6_isSmall_J17 fu s 0
theorem gX6_isSmall_J16 {l : Launch} {K : z_K} (hst : l.stackTraces = false) (fu : Nat) (s : z_M) : G l K mX6_isSmall 0 0 0 0 16 [vU] [] s (fX6_isSmall_J16 fu s) := by
  unfold fX6_isSmall_J16
  refine G_iconst (pc := 16) dX6_isSmall_16 ?_
  exact gX6_isSmall_J17 hst fu s 0
def fX6_isSmall (fu : Nat) (s : z_M) (a0 : Int) : z_O := if (a0 : Int) < 97 then (fX6_isSmall_J16 fu s) else (if (122 : Int) < a0 then (fX6_isSmall_J16 fu s) else (fX6_isSmall_J17 fu s 1))
theorem gX6_isSmall {l : Launch} {K : z_K} (hst : l.stackTraces = false) (fu : Nat) (s : z_M) (a0 : Int) : z_D l K mX6_isSmall 0 0 0 0 [vI a0] s (fX6_isSmall fu s a0) := by
  refine z_D_of (lv := [vI a0]) hst z_mX6_isSmall rfl ?_ (Nat.le_of_ble_eq_true rfl) rfl
  unfold fX6_isSmall
  refine G_iload_n (x := a0) (pc := 0) dX6_isSmall_0 rfl ?_
  refine G_bipush (pc := 1) dX6_isSmall_1 ?_
  refine G_icmp_lt (tgt := 16) (pc := 3) dX6_isSmall_3 ?_ ?_
  · refine G_fg (lv2 := [vU]) ⟨Or.inl rfl, trivial⟩ ?_
    exact gX6_isSmall_J16 hst fu s
  · refine G_iload_n (x := a0) (pc := 6) dX6_isSmall_6 rfl ?_
    refine G_bipush (pc := 7) dX6_isSmall_7 ?_
    refine G_icmp_gt (tgt := 16) (pc := 9) dX6_isSmall_9 ?_ ?_
    · refine G_fg (lv2 := [vU]) ⟨Or.inl rfl, trivial⟩ ?_
      exact gX6_isSmall_J16 hst fu s
    · refine G_iconst (pc := 12) dX6_isSmall_12 ?_
      refine G_goto (tgt := 17) (pc := 13) dX6_isSmall_13 ?_
      refine G_fg (lv2 := [vU]) ⟨Or.inl rfl, trivial⟩ ?_
      exact gX6_isSmall_J17 hst fu s 1
def fX9_addLetter (fu : Nat) (s : z_M) (a0 : Int) (a1 : Int) (a2 : Int) (a3 : Int) : z_O := if z_ob a0 9 then z_bR (fX9_readings fu s a0 a1) (fun x2 s1 => if z_ob x2 4 then z_bL (fX4_get fu s1 x2 a2) (fun x4 s3 => z_let (z_landl x4 15) (fun x5 => z_let (z_w x5) (fun x6 => z_let (z_wl (x4 + 1)) (fun x7 => z_let (z_w (a3 - 97)) (fun x8 => z_let (z_w (5 * x6)) (fun x9 => z_let (z_w (4 + x9)) (fun x10 => z_let (z_lshl x8 x10) (fun x11 => z_let (z_wl (x7 + x11)) (fun x12 => if z_ob x2 4 then z_bN (fX4_put fu s3 x2 a2 x12) (fun s13 => some (vN, s13)) else none))))))))) else none) else none
theorem gX9_addLetter {l : Launch} {K : z_K} (hst : l.stackTraces = false) (fu : Nat) (s : z_M) (a0 : Int) (a1 : Int) (a2 : Int) (a3 : Int) : z_D l K mX9_addLetter 1 23 0 0 [vR a0, vI a1, vI a2, vI a3] s (fX9_addLetter fu s a0 a1 a2 a3) := by
  refine z_D_of (lv := [vR a0, vI a1, vI a2, vI a3, vU, vU, vU, vU]) hst z_mX9_addLetter rfl ?_ (Nat.le_of_ble_eq_true rfl) rfl
  unfold fX9_addLetter
  refine G_aload_n (x := a0) (pc := 0) dX9_addLetter_0 rfl ?_
  refine G_iload_n (x := a1) (pc := 1) dX9_addLetter_1 rfl ?_
  refine G_callVR (as := [vI a1]) (st := []) (c := 9) (bc2 := 0) (bs2 := 0) (pc := 2) dX9_addLetter_2 z_mX9_readings z_vX9_readings z_wX9_75 (gX9_readings hst fu s a0 a1) rfl rfl (by decide) rfl rfl ⟨by decide, by decide, by decide, by decide, Nat.le_of_ble_eq_true rfl⟩ rfl (fun x2 s1 => ?_)
  refine G_astore (lv' := [vR a0, vI a1, vI a2, vI a3, vR x2, vU, vU, vU]) (pc := 5) dX9_addLetter_5 rfl ?_
  refine G_aload (x := x2) (pc := 7) dX9_addLetter_7 rfl ?_
  refine G_iload_n (x := a2) (pc := 9) dX9_addLetter_9 rfl ?_
  refine G_callVL (as := [vI a2]) (st := []) (c := 4) (bc2 := 0) (bs2 := 0) (pc := 10) dX9_addLetter_10 z_mX4_get z_vX4_get z_wX9_79 (gX4_get hst fu s1 x2 a2) rfl rfl (by decide) rfl rfl ⟨by decide, by decide, by decide, by decide, Nat.le_of_ble_eq_true rfl⟩ rfl (fun x4 s3 => ?_)
  refine G_lstore (lv' := [vR a0, vI a1, vI a2, vI a3, vR x2, vL x4, vU, vU]) (pc := 13) dX9_addLetter_13 rfl ?_
  refine G_lload (x := x4) (pc := 15) dX9_addLetter_15 rfl ?_
  refine G_ldc2 (pc := 17) dX9_addLetter_17 z_wX9_82 ?_
  refine G_land (pc := 20) dX9_addLetter_20 (fun x5 => ?_)
  refine G_l2i (pc := 21) dX9_addLetter_21 (fun x6 => ?_)
  refine G_istore (lv' := [vR a0, vI a1, vI a2, vI a3, vR x2, vL x4, vU, vI x6]) (pc := 22) dX9_addLetter_22 rfl ?_
  refine G_aload (x := x2) (pc := 24) dX9_addLetter_24 rfl ?_
  refine G_iload_n (x := a2) (pc := 26) dX9_addLetter_26 rfl ?_
  refine G_lload (x := x4) (pc := 27) dX9_addLetter_27 rfl ?_
  refine G_lconst (y := 1) (pc := 29) dX9_addLetter_29 ?_
  refine G_ladd (pc := 30) dX9_addLetter_30 (fun x7 => ?_)
  refine G_iload_n (x := a3) (pc := 31) dX9_addLetter_31 rfl ?_
  refine G_bipush (pc := 32) dX9_addLetter_32 ?_
  refine G_isub (pc := 34) dX9_addLetter_34 (fun x8 => ?_)
  refine G_i2l (pc := 35) dX9_addLetter_35 ?_
  refine G_iconst (pc := 36) dX9_addLetter_36 ?_
  refine G_iconst (pc := 37) dX9_addLetter_37 ?_
  refine G_iload (x := x6) (pc := 38) dX9_addLetter_38 rfl ?_
  refine G_imul (pc := 40) dX9_addLetter_40 (fun x9 => ?_)
  refine G_iadd (pc := 41) dX9_addLetter_41 (fun x10 => ?_)
  refine G_lshl (pc := 42) dX9_addLetter_42 (fun x11 => ?_)
  refine G_ladd (pc := 43) dX9_addLetter_43 (fun x12 => ?_)
  refine G_callVN (as := [vI a2, vL x12]) (st := []) (c := 4) (bc2 := 0) (bs2 := 0) (pc := 44) dX9_addLetter_44 z_mX4_put z_vX4_put z_wX9_60 (gX4_put hst fu s3 x2 a2 x12) rfl rfl (by decide) rfl rfl ⟨by decide, by decide, by decide, by decide, Nat.le_of_ble_eq_true rfl⟩ rfl (fun s13 => ?_)
  exact G_vret (pc := 47) dX9_addLetter_47
def fX6_stepInReading_J58 (fu : Nat) (s : z_M) : z_O := some (vI 1, s)
theorem gX6_stepInReading_J58 {l : Launch} {K : z_K} (hst : l.stackTraces = false) (fu : Nat) (s : z_M) : G l K mX6_stepInReading 2 50 0 0 58 [vU, vU] [] s (fX6_stepInReading_J58 fu s) := by
  unfold fX6_stepInReading_J58
  refine G_iconst (pc := 58) dX6_stepInReading_58 ?_
  exact G_iret (pc := 59) dX6_stepInReading_59
def fX6_stepInReading_J109 (fu : Nat) (s : z_M) (t0 : Int) (t1 : Int) : z_O := if z_ob t0 6 then z_let (z_up s t0 1 t1) (fun s6 => some (vI 0, s6)) else none
theorem gX6_stepInReading_J109 {l : Launch} {K : z_K} (hst : l.stackTraces = false) (fu : Nat) (s : z_M) (t0 : Int) (t1 : Int) : G l K mX6_stepInReading 2 50 0 0 109 [vU, vU] [vI t1, vR t0] s (fX6_stepInReading_J109 fu s t0 t1) := by
  unfold fX6_stepInReading_J109
  refine G_putI (j := 1) (pc := 109) dX6_stepInReading_109 rfl z_CLX6 (by decide) z_wX6_15 rfl (by decide) (by decide) (fun s6 => ?_)
  refine G_iconst (pc := 112) dX6_stepInReading_112 ?_
  exact G_iret (pc := 113) dX6_stepInReading_113
def fX6_stepInReading_J97 (fu : Nat) (s : z_M) (a0 : Int) (a1 : Int) : z_O := if (a1 : Int) ≠ 59 then (fX6_stepInReading_J109 fu s a0 0) else (fX6_stepInReading_J109 fu s a0 1)
theorem gX6_stepInReading_J97 {l : Launch} {K : z_K} (hst : l.stackTraces = false) (fu : Nat) (s : z_M) (a0 : Int) (a1 : Int) : G l K mX6_stepInReading 2 50 0 0 97 [vR a0, vI a1] [] s (fX6_stepInReading_J97 fu s a0 a1) := by
  unfold fX6_stepInReading_J97
  refine G_aload_n (x := a0) (pc := 97) dX6_stepInReading_97 rfl ?_
  refine G_iload_n (x := a1) (pc := 98) dX6_stepInReading_98 rfl ?_
  refine G_bipush (pc := 99) dX6_stepInReading_99 ?_
  refine G_icmp_ne (tgt := 108) (pc := 101) dX6_stepInReading_101 ?_ ?_
  · refine G_iconst (pc := 108) dX6_stepInReading_108 ?_
    refine G_fg (lv2 := [vU, vU]) ⟨Or.inl rfl, Or.inl rfl, trivial⟩ ?_
    exact gX6_stepInReading_J109 hst fu s a0 0
  · refine G_iconst (pc := 104) dX6_stepInReading_104 ?_
    refine G_goto (tgt := 109) (pc := 105) dX6_stepInReading_105 ?_
    refine G_fg (lv2 := [vU, vU]) ⟨Or.inl rfl, Or.inl rfl, trivial⟩ ?_
    exact gX6_stepInReading_J109 hst fu s a0 1
def fX6_stepInReading_J85 (fu : Nat) (s : z_M) (a0 : Int) (a1 : Int) : z_O := if (a1 : Int) = 59 then (fX6_stepInReading_J97 fu s a0 a1) else (if (a1 : Int) ≠ 125 then (some (vI 1, s)) else (fX6_stepInReading_J97 fu s a0 a1))
theorem gX6_stepInReading_J85 {l : Launch} {K : z_K} (hst : l.stackTraces = false) (fu : Nat) (s : z_M) (a0 : Int) (a1 : Int) : G l K mX6_stepInReading 2 50 0 0 85 [vR a0, vI a1] [] s (fX6_stepInReading_J85 fu s a0 a1) := by
  unfold fX6_stepInReading_J85
  refine G_iload_n (x := a1) (pc := 85) dX6_stepInReading_85 rfl ?_
  refine G_bipush (pc := 86) dX6_stepInReading_86 ?_
  refine G_icmp_eq (tgt := 97) (pc := 88) dX6_stepInReading_88 ?_ ?_
  · exact gX6_stepInReading_J97 hst fu s a0 a1
  · refine G_iload_n (x := a1) (pc := 91) dX6_stepInReading_91 rfl ?_
    refine G_bipush (pc := 92) dX6_stepInReading_92 ?_
    refine G_icmp_ne (tgt := 114) (pc := 94) dX6_stepInReading_94 ?_ ?_
    · refine G_iconst (pc := 114) dX6_stepInReading_114 ?_
      exact G_iret (pc := 115) dX6_stepInReading_115
    · exact gX6_stepInReading_J97 hst fu s a0 a1
def fX6_stepInReading_J44 (fu : Nat) (s : z_M) (a0 : Int) (a1 : Int) : z_O := if z_ob a0 6 then z_let (s a0 4) (fun x3 => if (x3 : Int) = 0 then (fX6_stepInReading_J58 fu s) else (z_bI (fX6_isSmall fu s a1) (fun x5 s4 => if (x5 : Int) = 0 then (if (a1 : Int) ≠ 124 then (fX6_stepInReading_J85 fu s4 a0 a1) else (if z_ob a0 6 then z_let (s4 a0 6) (fun x7 => if (x7 : Int) ≠ 0 then (fX6_stepInReading_J85 fu s4 a0 a1) else (if z_ob a0 6 then z_let (z_up s4 a0 6 1) (fun s8 => if z_ob a0 6 then z_let (z_up s8 a0 4 0) (fun s9 => some (vI 0, s9)) else none) else none)) else none)) else (fX6_stepInReading_J58 fu s4)))) else none
theorem gX6_stepInReading_J44 {l : Launch} {K : z_K} (hst : l.stackTraces = false) (fu : Nat) (s : z_M) (a0 : Int) (a1 : Int) : G l K mX6_stepInReading 2 50 0 0 44 [vR a0, vI a1] [] s (fX6_stepInReading_J44 fu s a0 a1) := by
  unfold fX6_stepInReading_J44
  refine G_aload_n (x := a0) (pc := 44) dX6_stepInReading_44 rfl ?_
  refine G_getI (j := 4) (pc := 45) dX6_stepInReading_45 rfl z_CLX6 (by decide) z_wX6_82 (by decide) (fun x3 => ?_)
  refine G_if_eq (tgt := 58) (pc := 48) dX6_stepInReading_48 ?_ ?_
  · refine G_fg (lv2 := [vU, vU]) ⟨Or.inl rfl, Or.inl rfl, trivial⟩ ?_
    exact gX6_stepInReading_J58 hst fu s
  · refine G_iload_n (x := a1) (pc := 51) dX6_stepInReading_51 rfl ?_
    refine G_callSI (as := [vI a1]) (st := []) (bc2 := 0) (bs2 := 0) (pc := 52) dX6_stepInReading_52 z_mX6_isSmall z_sX6_isSmall z_wX6_85 (gX6_isSmall hst fu s a1) rfl rfl ⟨by decide, by decide, by decide, by decide, Nat.le_of_ble_eq_true rfl⟩ rfl (fun x5 s4 => ?_)
    refine G_if_eq (tgt := 60) (pc := 55) dX6_stepInReading_55 ?_ ?_
    · refine G_iload_n (x := a1) (pc := 60) dX6_stepInReading_60 rfl ?_
      refine G_bipush (pc := 61) dX6_stepInReading_61 ?_
      refine G_icmp_ne (tgt := 85) (pc := 63) dX6_stepInReading_63 ?_ ?_
      · exact gX6_stepInReading_J85 hst fu s4 a0 a1
      · refine G_aload_n (x := a0) (pc := 66) dX6_stepInReading_66 rfl ?_
        refine G_getI (j := 6) (pc := 67) dX6_stepInReading_67 rfl z_CLX6 (by decide) z_wX6_79 (by decide) (fun x7 => ?_)
        refine G_if_ne (tgt := 85) (pc := 70) dX6_stepInReading_70 ?_ ?_
        · exact gX6_stepInReading_J85 hst fu s4 a0 a1
        · refine G_aload_n (x := a0) (pc := 73) dX6_stepInReading_73 rfl ?_
          refine G_iconst (pc := 74) dX6_stepInReading_74 ?_
          refine G_putI (j := 6) (pc := 75) dX6_stepInReading_75 rfl z_CLX6 (by decide) z_wX6_79 rfl (by decide) (by decide) (fun s8 => ?_)
          refine G_aload_n (x := a0) (pc := 78) dX6_stepInReading_78 rfl ?_
          refine G_iconst (pc := 79) dX6_stepInReading_79 ?_
          refine G_putI (j := 4) (pc := 80) dX6_stepInReading_80 rfl z_CLX6 (by decide) z_wX6_82 rfl (by decide) (by decide) (fun s9 => ?_)
          refine G_iconst (pc := 83) dX6_stepInReading_83 ?_
          exact G_iret (pc := 84) dX6_stepInReading_84
    · refine G_fg (lv2 := [vU, vU]) ⟨Or.inl rfl, Or.inl rfl, trivial⟩ ?_
      exact gX6_stepInReading_J58 hst fu s4
def fX6_stepInReading (fu : Nat) (s : z_M) (a0 : Int) (a1 : Int) : z_O := z_bI (fX6_isSmall fu s a1) (fun x2 s1 => if (x2 : Int) = 0 then (fX6_stepInReading_J44 fu s1 a0 a1) else (if z_ob a0 6 then z_let (s1 a0 4) (fun x10 => if (9 : Int) ≤ x10 then (fX6_stepInReading_J44 fu s1 a0 a1) else (if z_ob a0 6 then z_let (s1 a0 4) (fun x11 => z_let (z_w (x11 + 1)) (fun x12 => if z_ob a0 6 then z_let (z_up s1 a0 4 x12) (fun s13 => if z_ob a0 6 then z_let (z_gr a0 0) (fun x14 => if z_ob a0 6 then z_let (s13 a0 6) (fun x15 => if z_ob a0 6 then z_let (s13 a0 5) (fun x16 => if z_ob x14 9 then z_bN (fX9_addLetter fu s13 x14 x15 x16 a1) (fun s17 => some (vI 0, s17)) else none) else none) else none) else none) else none)) else none)) else none))
theorem gX6_stepInReading {l : Launch} {K : z_K} (hst : l.stackTraces = false) (fu : Nat) (s : z_M) (a0 : Int) (a1 : Int) : z_D l K mX6_stepInReading 2 50 0 0 [vR a0, vI a1] s (fX6_stepInReading fu s a0 a1) := by
  refine z_D_of (lv := [vR a0, vI a1]) hst z_mX6_stepInReading rfl ?_ (Nat.le_of_ble_eq_true rfl) rfl
  unfold fX6_stepInReading
  refine G_iload_n (x := a1) (pc := 0) dX6_stepInReading_0 rfl ?_
  refine G_callSI (as := [vI a1]) (st := []) (bc2 := 0) (bs2 := 0) (pc := 1) dX6_stepInReading_1 z_mX6_isSmall z_sX6_isSmall z_wX6_85 (gX6_isSmall hst fu s a1) rfl rfl ⟨by decide, by decide, by decide, by decide, Nat.le_of_ble_eq_true rfl⟩ rfl (fun x2 s1 => ?_)
  refine G_if_eq (tgt := 44) (pc := 4) dX6_stepInReading_4 ?_ ?_
  · exact gX6_stepInReading_J44 hst fu s1 a0 a1
  · refine G_aload_n (x := a0) (pc := 7) dX6_stepInReading_7 rfl ?_
    refine G_getI (j := 4) (pc := 8) dX6_stepInReading_8 rfl z_CLX6 (by decide) z_wX6_82 (by decide) (fun x10 => ?_)
    refine G_bipush (pc := 11) dX6_stepInReading_11 ?_
    refine G_icmp_ge (tgt := 44) (pc := 13) dX6_stepInReading_13 ?_ ?_
    · exact gX6_stepInReading_J44 hst fu s1 a0 a1
    · refine G_aload_n (x := a0) (pc := 16) dX6_stepInReading_16 rfl ?_
      refine G_dupR (pc := 17) dX6_stepInReading_17 ?_
      refine G_getI (j := 4) (pc := 18) dX6_stepInReading_18 rfl z_CLX6 (by decide) z_wX6_82 (by decide) (fun x11 => ?_)
      refine G_iconst (pc := 21) dX6_stepInReading_21 ?_
      refine G_iadd (pc := 22) dX6_stepInReading_22 (fun x12 => ?_)
      refine G_putI (j := 4) (pc := 23) dX6_stepInReading_23 rfl z_CLX6 (by decide) z_wX6_82 rfl (by decide) (by decide) (fun s13 => ?_)
      refine G_aload_n (x := a0) (pc := 26) dX6_stepInReading_26 rfl ?_
      refine G_getR (j := 0) (pc := 27) dX6_stepInReading_27 rfl z_CLX6 (by decide) z_wX6_9 (by decide) (fun x14 => ?_)
      refine G_aload_n (x := a0) (pc := 30) dX6_stepInReading_30 rfl ?_
      refine G_getI (j := 6) (pc := 31) dX6_stepInReading_31 rfl z_CLX6 (by decide) z_wX6_79 (by decide) (fun x15 => ?_)
      refine G_aload_n (x := a0) (pc := 34) dX6_stepInReading_34 rfl ?_
      refine G_getI (j := 5) (pc := 35) dX6_stepInReading_35 rfl z_CLX6 (by decide) z_wX6_76 (by decide) (fun x16 => ?_)
      refine G_iload_n (x := a1) (pc := 38) dX6_stepInReading_38 rfl ?_
      refine G_callVN (as := [vI x15, vI x16, vI a1]) (st := []) (c := 9) (bc2 := 0) (bs2 := 0) (pc := 39) dX6_stepInReading_39 z_mX9_addLetter z_vX9_addLetter z_wX6_88 (gX9_addLetter hst fu s13 x14 x15 x16 a1) rfl rfl (by decide) rfl rfl ⟨by decide, by decide, by decide, by decide, Nat.le_of_ble_eq_true rfl⟩ rfl (fun s17 => ?_)
      refine G_iconst (pc := 42) dX6_stepInReading_42 ?_
      exact G_iret (pc := 43) dX6_stepInReading_43
def fX6_isBig_J17 (fu : Nat) (s : z_M) (t0 : Int) : z_O := if z_bl t0 then some (vI t0, s) else none
theorem gX6_isBig_J17 {l : Launch} {K : z_K} (hst : l.stackTraces = false) (fu : Nat) (s : z_M) (t0 : Int) : G l K mX6_isBig 0 0 0 0 17 [vU] [vI t0] s (fX6_isBig_J17 fu s t0) := by
  unfold fX6_isBig_J17
  exact G_zret (pc := 17) dX6_isBig_17
def fX6_isBig_J16 (fu : Nat) (s : z_M) : z_O := fX6_isBig_J17 fu s 0
theorem gX6_isBig_J16 {l : Launch} {K : z_K} (hst : l.stackTraces = false) (fu : Nat) (s : z_M) : G l K mX6_isBig 0 0 0 0 16 [vU] [] s (fX6_isBig_J16 fu s) := by
  unfold fX6_isBig_J16
  refine G_iconst (pc := 16) dX6_isBig_16 ?_
  exact gX6_isBig_J17 hst fu s 0
def fX6_isBig (fu : Nat) (s : z_M) (a0 : Int) : z_O := if (a0 : Int) < 65 then (fX6_isBig_J16 fu s) else (if (90 : Int) < a0 then (fX6_isBig_J16 fu s) else (fX6_isBig_J17 fu s 1))
theorem gX6_isBig {l : Launch} {K : z_K} (hst : l.stackTraces = false) (fu : Nat) (s : z_M) (a0 : Int) : z_D l K mX6_isBig 0 0 0 0 [vI a0] s (fX6_isBig fu s a0) := by
  refine z_D_of (lv := [vI a0]) hst z_mX6_isBig rfl ?_ (Nat.le_of_ble_eq_true rfl) rfl
  unfold fX6_isBig
  refine G_iload_n (x := a0) (pc := 0) dX6_isBig_0 rfl ?_
  refine G_bipush (pc := 1) dX6_isBig_1 ?_
  refine G_icmp_lt (tgt := 16) (pc := 3) dX6_isBig_3 ?_ ?_
  · refine G_fg (lv2 := [vU]) ⟨Or.inl rfl, trivial⟩ ?_
    exact gX6_isBig_J16 hst fu s
  · refine G_iload_n (x := a0) (pc := 6) dX6_isBig_6 rfl ?_
    refine G_bipush (pc := 7) dX6_isBig_7 ?_
    refine G_icmp_gt (tgt := 16) (pc := 9) dX6_isBig_9 ?_ ?_
    · refine G_fg (lv2 := [vU]) ⟨Or.inl rfl, trivial⟩ ?_
      exact gX6_isBig_J16 hst fu s
    · refine G_iconst (pc := 12) dX6_isBig_12 ?_
      refine G_goto (tgt := 17) (pc := 13) dX6_isBig_13 ?_
      refine G_fg (lv2 := [vU]) ⟨Or.inl rfl, trivial⟩ ?_
      exact gX6_isBig_J17 hst fu s 1
def fX9_add (fu : Nat) (s : z_M) (a0 : Int) (a1 : Int) (a2 : Int) (a3 : Int) (a4 : Int) : z_O := if z_ob a0 9 then z_let (z_gr a0 0) (fun x1 => if z_ob a0 9 then z_let (s a0 6) (fun x2 => if z_ob x1 7 then z_bN (fX7_put fu s x1 x2 a1) (fun s3 => if z_ob a0 9 then z_let (z_gr a0 1) (fun x4 => if z_ob a0 9 then z_let (s3 a0 6) (fun x5 => if z_ob x4 7 then z_bN (fX7_put fu s3 x4 x5 a4) (fun s6 => if z_ob a0 9 then z_let (z_gr a0 2) (fun x7 => if z_ob a0 9 then z_let (s6 a0 6) (fun x8 => if z_ob x7 7 then z_bN (fX7_put fu s6 x7 x8 a2) (fun s9 => if z_ob a0 9 then z_let (z_gr a0 3) (fun x10 => if z_ob a0 9 then z_let (s9 a0 6) (fun x11 => if z_ob x10 7 then z_bN (fX7_put fu s9 x10 x11 a3) (fun s12 => if z_ob a0 9 then z_let (z_gr a0 4) (fun x13 => if z_ob a0 9 then z_let (s12 a0 6) (fun x14 => if z_ob x13 4 then z_bN (fX4_put fu s12 x13 x14 0) (fun s15 => if z_ob a0 9 then z_let (z_gr a0 5) (fun x16 => if z_ob a0 9 then z_let (s15 a0 6) (fun x17 => if z_ob x16 4 then z_bN (fX4_put fu s15 x16 x17 0) (fun s18 => if z_ob a0 9 then z_let (s18 a0 6) (fun x19 => z_let (z_w (x19 + 1)) (fun x20 => if z_ob a0 9 then z_let (z_up s18 a0 6 x20) (fun s21 => some (vN, s21)) else none)) else none) else none) else none) else none) else none) else none) else none) else none) else none) else none) else none) else none) else none) else none) else none) else none) else none) else none) else none
theorem gX9_add {l : Launch} {K : z_K} (hst : l.stackTraces = false) (fu : Nat) (s : z_M) (a0 : Int) (a1 : Int) (a2 : Int) (a3 : Int) (a4 : Int) : z_D l K mX9_add 1 23 0 0 [vR a0, vI a1, vI a2, vI a3, vI a4] s (fX9_add fu s a0 a1 a2 a3 a4) := by
  refine z_D_of (lv := [vR a0, vI a1, vI a2, vI a3, vI a4]) hst z_mX9_add rfl ?_ (Nat.le_of_ble_eq_true rfl) rfl
  unfold fX9_add
  refine G_aload_n (x := a0) (pc := 0) dX9_add_0 rfl ?_
  refine G_getR (j := 0) (pc := 1) dX9_add_1 rfl z_CLX9 (by decide) z_wX9_14 (by decide) (fun x1 => ?_)
  refine G_aload_n (x := a0) (pc := 4) dX9_add_4 rfl ?_
  refine G_getI (j := 6) (pc := 5) dX9_add_5 rfl z_CLX9 (by decide) z_wX9_39 (by decide) (fun x2 => ?_)
  refine G_iload_n (x := a1) (pc := 8) dX9_add_8 rfl ?_
  refine G_callVN (as := [vI x2, vI a1]) (st := []) (c := 7) (bc2 := 0) (bs2 := 0) (pc := 9) dX9_add_9 z_mX7_put z_vX7_put z_wX9_56 (gX7_put hst fu s x1 x2 a1) rfl rfl (by decide) rfl rfl ⟨by decide, by decide, by decide, by decide, Nat.le_of_ble_eq_true rfl⟩ rfl (fun s3 => ?_)
  refine G_aload_n (x := a0) (pc := 12) dX9_add_12 rfl ?_
  refine G_getR (j := 1) (pc := 13) dX9_add_13 rfl z_CLX9 (by decide) z_wX9_20 (by decide) (fun x4 => ?_)
  refine G_aload_n (x := a0) (pc := 16) dX9_add_16 rfl ?_
  refine G_getI (j := 6) (pc := 17) dX9_add_17 rfl z_CLX9 (by decide) z_wX9_39 (by decide) (fun x5 => ?_)
  refine G_iload (x := a4) (pc := 20) dX9_add_20 rfl ?_
  refine G_callVN (as := [vI x5, vI a4]) (st := []) (c := 7) (bc2 := 0) (bs2 := 0) (pc := 22) dX9_add_22 z_mX7_put z_vX7_put z_wX9_56 (gX7_put hst fu s3 x4 x5 a4) rfl rfl (by decide) rfl rfl ⟨by decide, by decide, by decide, by decide, Nat.le_of_ble_eq_true rfl⟩ rfl (fun s6 => ?_)
  refine G_aload_n (x := a0) (pc := 25) dX9_add_25 rfl ?_
  refine G_getR (j := 2) (pc := 26) dX9_add_26 rfl z_CLX9 (by decide) z_wX9_23 (by decide) (fun x7 => ?_)
  refine G_aload_n (x := a0) (pc := 29) dX9_add_29 rfl ?_
  refine G_getI (j := 6) (pc := 30) dX9_add_30 rfl z_CLX9 (by decide) z_wX9_39 (by decide) (fun x8 => ?_)
  refine G_iload_n (x := a2) (pc := 33) dX9_add_33 rfl ?_
  refine G_callVN (as := [vI x8, vI a2]) (st := []) (c := 7) (bc2 := 0) (bs2 := 0) (pc := 34) dX9_add_34 z_mX7_put z_vX7_put z_wX9_56 (gX7_put hst fu s6 x7 x8 a2) rfl rfl (by decide) rfl rfl ⟨by decide, by decide, by decide, by decide, Nat.le_of_ble_eq_true rfl⟩ rfl (fun s9 => ?_)
  refine G_aload_n (x := a0) (pc := 37) dX9_add_37 rfl ?_
  refine G_getR (j := 3) (pc := 38) dX9_add_38 rfl z_CLX9 (by decide) z_wX9_26 (by decide) (fun x10 => ?_)
  refine G_aload_n (x := a0) (pc := 41) dX9_add_41 rfl ?_
  refine G_getI (j := 6) (pc := 42) dX9_add_42 rfl z_CLX9 (by decide) z_wX9_39 (by decide) (fun x11 => ?_)
  refine G_iload_n (x := a3) (pc := 45) dX9_add_45 rfl ?_
  refine G_callVN (as := [vI x11, vI a3]) (st := []) (c := 7) (bc2 := 0) (bs2 := 0) (pc := 46) dX9_add_46 z_mX7_put z_vX7_put z_wX9_56 (gX7_put hst fu s9 x10 x11 a3) rfl rfl (by decide) rfl rfl ⟨by decide, by decide, by decide, by decide, Nat.le_of_ble_eq_true rfl⟩ rfl (fun s12 => ?_)
  refine G_aload_n (x := a0) (pc := 49) dX9_add_49 rfl ?_
  refine G_getR (j := 4) (pc := 50) dX9_add_50 rfl z_CLX9 (by decide) z_wX9_32 (by decide) (fun x13 => ?_)
  refine G_aload_n (x := a0) (pc := 53) dX9_add_53 rfl ?_
  refine G_getI (j := 6) (pc := 54) dX9_add_54 rfl z_CLX9 (by decide) z_wX9_39 (by decide) (fun x14 => ?_)
  refine G_lconst (y := 0) (pc := 57) dX9_add_57 ?_
  refine G_callVN (as := [vI x14, vL 0]) (st := []) (c := 4) (bc2 := 0) (bs2 := 0) (pc := 58) dX9_add_58 z_mX4_put z_vX4_put z_wX9_60 (gX4_put hst fu s12 x13 x14 0) rfl rfl (by decide) rfl rfl ⟨by decide, by decide, by decide, by decide, Nat.le_of_ble_eq_true rfl⟩ rfl (fun s15 => ?_)
  refine G_aload_n (x := a0) (pc := 61) dX9_add_61 rfl ?_
  refine G_getR (j := 5) (pc := 62) dX9_add_62 rfl z_CLX9 (by decide) z_wX9_36 (by decide) (fun x16 => ?_)
  refine G_aload_n (x := a0) (pc := 65) dX9_add_65 rfl ?_
  refine G_getI (j := 6) (pc := 66) dX9_add_66 rfl z_CLX9 (by decide) z_wX9_39 (by decide) (fun x17 => ?_)
  refine G_lconst (y := 0) (pc := 69) dX9_add_69 ?_
  refine G_callVN (as := [vI x17, vL 0]) (st := []) (c := 4) (bc2 := 0) (bs2 := 0) (pc := 70) dX9_add_70 z_mX4_put z_vX4_put z_wX9_60 (gX4_put hst fu s15 x16 x17 0) rfl rfl (by decide) rfl rfl ⟨by decide, by decide, by decide, by decide, Nat.le_of_ble_eq_true rfl⟩ rfl (fun s18 => ?_)
  refine G_aload_n (x := a0) (pc := 73) dX9_add_73 rfl ?_
  refine G_dupR (pc := 74) dX9_add_74 ?_
  refine G_getI (j := 6) (pc := 75) dX9_add_75 rfl z_CLX9 (by decide) z_wX9_39 (by decide) (fun x19 => ?_)
  refine G_iconst (pc := 78) dX9_add_78 ?_
  refine G_iadd (pc := 79) dX9_add_79 (fun x20 => ?_)
  refine G_putI (j := 6) (pc := 80) dX9_add_80 rfl z_CLX9 (by decide) z_wX9_39 rfl (by decide) (by decide) (fun s21 => ?_)
  exact G_vret (pc := 83) dX9_add_83
def fX6_addSign (fu : Nat) (s : z_M) (a0 : Int) (a1 : Int) (a2 : Int) (a3 : Int) (a4 : Int) : z_O := if z_ob a0 6 then z_let (z_gr a0 0) (fun x1 => if z_ob x1 9 then z_let (s x1 6) (fun x2 => if (x2 : Int) < 200 then (if z_ob a0 6 then z_let (z_gr a0 0) (fun x3 => if z_ob x3 9 then z_bN (fX9_add fu s x3 a1 a2 a3 a4) (fun s4 => some (vI 0, s4)) else none) else none) else (some (vI 2, s))) else none) else none
theorem gX6_addSign {l : Launch} {K : z_K} (hst : l.stackTraces = false) (fu : Nat) (s : z_M) (a0 : Int) (a1 : Int) (a2 : Int) (a3 : Int) (a4 : Int) : z_D l K mX6_addSign 2 47 0 0 [vR a0, vI a1, vI a2, vI a3, vI a4] s (fX6_addSign fu s a0 a1 a2 a3 a4) := by
  refine z_D_of (lv := [vR a0, vI a1, vI a2, vI a3, vI a4]) hst z_mX6_addSign rfl ?_ (Nat.le_of_ble_eq_true rfl) rfl
  unfold fX6_addSign
  refine G_aload_n (x := a0) (pc := 0) dX6_addSign_0 rfl ?_
  refine G_getR (j := 0) (pc := 1) dX6_addSign_1 rfl z_CLX6 (by decide) z_wX6_9 (by decide) (fun x1 => ?_)
  refine G_getI (j := 6) (pc := 4) dX6_addSign_4 rfl z_CLX9 (by decide) z_wX6_73 (by decide) (fun x2 => ?_)
  refine G_sipush (pc := 7) dX6_addSign_7 ?_
  refine G_icmp_lt (tgt := 15) (pc := 10) dX6_addSign_10 ?_ ?_
  · refine G_aload_n (x := a0) (pc := 15) dX6_addSign_15 rfl ?_
    refine G_getR (j := 0) (pc := 16) dX6_addSign_16 rfl z_CLX6 (by decide) z_wX6_9 (by decide) (fun x3 => ?_)
    refine G_iload_n (x := a1) (pc := 19) dX6_addSign_19 rfl ?_
    refine G_iload_n (x := a2) (pc := 20) dX6_addSign_20 rfl ?_
    refine G_iload_n (x := a3) (pc := 21) dX6_addSign_21 rfl ?_
    refine G_iload (x := a4) (pc := 22) dX6_addSign_22 rfl ?_
    refine G_callVN (as := [vI a1, vI a2, vI a3, vI a4]) (st := []) (c := 9) (bc2 := 0) (bs2 := 0) (pc := 24) dX6_addSign_24 z_mX9_add z_vX9_add z_wX6_92 (gX9_add hst fu s x3 a1 a2 a3 a4) rfl rfl (by decide) rfl rfl ⟨by decide, by decide, by decide, by decide, Nat.le_of_ble_eq_true rfl⟩ rfl (fun s4 => ?_)
    refine G_iconst (pc := 27) dX6_addSign_27 ?_
    exact G_iret (pc := 28) dX6_addSign_28
  · refine G_iconst (pc := 13) dX6_addSign_13 ?_
    exact G_iret (pc := 14) dX6_addSign_14
def fX6_stepInBase_J38 (fu : Nat) (s : z_M) : z_O := some (vI 1, s)
theorem gX6_stepInBase_J38 {l : Launch} {K : z_K} (hst : l.stackTraces = false) (fu : Nat) (s : z_M) : G l K mX6_stepInBase 3 71 0 0 38 [vU, vU] [] s (fX6_stepInBase_J38 fu s) := by
  unfold fX6_stepInBase_J38
  refine G_iconst (pc := 38) dX6_stepInBase_38 ?_
  exact G_iret (pc := 39) dX6_stepInBase_39
def fX6_stepInBase (fu : Nat) (s : z_M) (a0 : Int) (a1 : Int) : z_O := if (a1 : Int) ≠ 124 then (if z_ob a0 6 then z_let (s a0 3) (fun x1 => if (x1 : Int) = 3 then (fX6_stepInBase_J38 fu s) else (z_bI (fX6_isBig fu s a1) (fun x3 s2 => if (x3 : Int) ≠ 0 then (if z_ob a0 6 then z_let (s2 a0 3) (fun x4 => z_let (z_w (x4 + 1)) (fun x5 => if z_ob a0 6 then z_let (z_up s2 a0 3 x5) (fun s6 => if z_ob a0 6 then z_let (z_gr a0 0) (fun x7 => if z_ob x7 9 then z_let (s6 x7 7) (fun x8 => z_let (z_w (x8 - 1)) (fun x9 => if z_ob a0 6 then z_let (z_gr a0 0) (fun x10 => if z_ob x10 9 then z_let (s6 x10 8) (fun x11 => if z_ob a0 6 then z_bI (fX6_addSign fu s6 a0 a1 x9 0 x11) (fun x13 s12 => some (vI x13, s12)) else none) else none) else none)) else none) else none) else none)) else none) else (fX6_stepInBase_J38 fu s2)))) else none) else (if z_ob a0 6 then z_let (z_up s a0 6 0) (fun s14 => if z_ob a0 6 then z_let (z_up s14 a0 4 0) (fun s15 => if z_ob a0 6 then z_let (z_up s15 a0 1 3) (fun s16 => some (vI 0, s16)) else none) else none) else none)
theorem gX6_stepInBase {l : Launch} {K : z_K} (hst : l.stackTraces = false) (fu : Nat) (s : z_M) (a0 : Int) (a1 : Int) : z_D l K mX6_stepInBase 3 71 0 0 [vR a0, vI a1] s (fX6_stepInBase fu s a0 a1) := by
  refine z_D_of (lv := [vR a0, vI a1]) hst z_mX6_stepInBase rfl ?_ (Nat.le_of_ble_eq_true rfl) rfl
  unfold fX6_stepInBase
  refine G_iload_n (x := a1) (pc := 0) dX6_stepInBase_0 rfl ?_
  refine G_bipush (pc := 1) dX6_stepInBase_1 ?_
  refine G_icmp_ne (tgt := 23) (pc := 3) dX6_stepInBase_3 ?_ ?_
  · refine G_aload_n (x := a0) (pc := 23) dX6_stepInBase_23 rfl ?_
    refine G_getI (j := 3) (pc := 24) dX6_stepInBase_24 rfl z_CLX6 (by decide) z_wX6_70 (by decide) (fun x1 => ?_)
    refine G_iconst (pc := 27) dX6_stepInBase_27 ?_
    refine G_icmp_eq (tgt := 38) (pc := 28) dX6_stepInBase_28 ?_ ?_
    · refine G_fg (lv2 := [vU, vU]) ⟨Or.inl rfl, Or.inl rfl, trivial⟩ ?_
      exact gX6_stepInBase_J38 hst fu s
    · refine G_iload_n (x := a1) (pc := 31) dX6_stepInBase_31 rfl ?_
      refine G_callSI (as := [vI a1]) (st := []) (bc2 := 0) (bs2 := 0) (pc := 32) dX6_stepInBase_32 z_mX6_isBig z_sX6_isBig z_wX6_59 (gX6_isBig hst fu s a1) rfl rfl ⟨by decide, by decide, by decide, by decide, Nat.le_of_ble_eq_true rfl⟩ rfl (fun x3 s2 => ?_)
      refine G_if_ne (tgt := 40) (pc := 35) dX6_stepInBase_35 ?_ ?_
      · refine G_aload_n (x := a0) (pc := 40) dX6_stepInBase_40 rfl ?_
        refine G_dupR (pc := 41) dX6_stepInBase_41 ?_
        refine G_getI (j := 3) (pc := 42) dX6_stepInBase_42 rfl z_CLX6 (by decide) z_wX6_70 (by decide) (fun x4 => ?_)
        refine G_iconst (pc := 45) dX6_stepInBase_45 ?_
        refine G_iadd (pc := 46) dX6_stepInBase_46 (fun x5 => ?_)
        refine G_putI (j := 3) (pc := 47) dX6_stepInBase_47 rfl z_CLX6 (by decide) z_wX6_70 rfl (by decide) (by decide) (fun s6 => ?_)
        refine G_aload_n (x := a0) (pc := 50) dX6_stepInBase_50 rfl ?_
        refine G_iload_n (x := a1) (pc := 51) dX6_stepInBase_51 rfl ?_
        refine G_aload_n (x := a0) (pc := 52) dX6_stepInBase_52 rfl ?_
        refine G_getR (j := 0) (pc := 53) dX6_stepInBase_53 rfl z_CLX6 (by decide) z_wX6_9 (by decide) (fun x7 => ?_)
        refine G_getI (j := 7) (pc := 56) dX6_stepInBase_56 rfl z_CLX9 (by decide) z_wX6_53 (by decide) (fun x8 => ?_)
        refine G_iconst (pc := 59) dX6_stepInBase_59 ?_
        refine G_isub (pc := 60) dX6_stepInBase_60 (fun x9 => ?_)
        refine G_iconst (pc := 61) dX6_stepInBase_61 ?_
        refine G_aload_n (x := a0) (pc := 62) dX6_stepInBase_62 rfl ?_
        refine G_getR (j := 0) (pc := 63) dX6_stepInBase_63 rfl z_CLX6 (by decide) z_wX6_9 (by decide) (fun x10 => ?_)
        refine G_getI (j := 8) (pc := 66) dX6_stepInBase_66 rfl z_CLX9 (by decide) z_wX6_43 (by decide) (fun x11 => ?_)
        refine G_callVI (as := [vI a1, vI x9, vI 0, vI x11]) (st := []) (c := 6) (bc2 := 0) (bs2 := 0) (pc := 69) dX6_stepInBase_69 z_mX6_addSign z_vX6_addSign z_wX6_63 (gX6_addSign hst fu s6 a0 a1 x9 0 x11) rfl rfl (by decide) rfl rfl ⟨by decide, by decide, by decide, by decide, Nat.le_of_ble_eq_true rfl⟩ rfl (fun x13 s12 => ?_)
        exact G_iret (pc := 72) dX6_stepInBase_72
      · refine G_fg (lv2 := [vU, vU]) ⟨Or.inl rfl, Or.inl rfl, trivial⟩ ?_
        exact gX6_stepInBase_J38 hst fu s2
  · refine G_aload_n (x := a0) (pc := 6) dX6_stepInBase_6 rfl ?_
    refine G_iconst (pc := 7) dX6_stepInBase_7 ?_
    refine G_putI (j := 6) (pc := 8) dX6_stepInBase_8 rfl z_CLX6 (by decide) z_wX6_79 rfl (by decide) (by decide) (fun s14 => ?_)
    refine G_aload_n (x := a0) (pc := 11) dX6_stepInBase_11 rfl ?_
    refine G_iconst (pc := 12) dX6_stepInBase_12 ?_
    refine G_putI (j := 4) (pc := 13) dX6_stepInBase_13 rfl z_CLX6 (by decide) z_wX6_82 rfl (by decide) (by decide) (fun s15 => ?_)
    refine G_aload_n (x := a0) (pc := 16) dX6_stepInBase_16 rfl ?_
    refine G_iconst (pc := 17) dX6_stepInBase_17 ?_
    refine G_putI (j := 1) (pc := 18) dX6_stepInBase_18 rfl z_CLX6 (by decide) z_wX6_15 rfl (by decide) (by decide) (fun s16 => ?_)
    refine G_iconst (pc := 21) dX6_stepInBase_21 ?_
    exact G_iret (pc := 22) dX6_stepInBase_22
def fX6_stepBaseDue_J15 (fu : Nat) (s : z_M) : z_O := some (vI 1, s)
theorem gX6_stepBaseDue_J15 {l : Launch} {K : z_K} (hst : l.stackTraces = false) (fu : Nat) (s : z_M) : G l K mX6_stepBaseDue 3 71 0 0 15 [vU, vU] [] s (fX6_stepBaseDue_J15 fu s) := by
  unfold fX6_stepBaseDue_J15
  refine G_iconst (pc := 15) dX6_stepBaseDue_15 ?_
  exact G_iret (pc := 16) dX6_stepBaseDue_16
def fX6_stepBaseDue (fu : Nat) (s : z_M) (a0 : Int) (a1 : Int) : z_O := if z_ob a0 6 then z_let (s a0 2) (fun x1 => if (x1 : Int) = 4 then (fX6_stepBaseDue_J15 fu s) else (z_bI (fX6_isBig fu s a1) (fun x3 s2 => if (x3 : Int) ≠ 0 then (if z_ob a0 6 then z_let (s2 a0 2) (fun x4 => z_let (z_w (x4 + 1)) (fun x5 => if z_ob a0 6 then z_let (z_up s2 a0 2 x5) (fun s6 => if z_ob a0 6 then z_let (z_up s6 a0 3 1) (fun s7 => if z_ob a0 6 then z_let (z_gr a0 0) (fun x8 => if z_ob x8 9 then z_let (s7 x8 6) (fun x9 => if z_ob a0 6 then z_let (z_up s7 a0 5 x9) (fun s10 => if z_ob a0 6 then z_let (z_up s10 a0 1 2) (fun s11 => if z_ob a0 6 then z_let (z_gr a0 0) (fun x12 => if z_ob x12 9 then z_let (s11 x12 7) (fun x13 => z_let (z_w (x13 - 1)) (fun x14 => if z_ob a0 6 then z_let (z_gr a0 0) (fun x15 => if z_ob x15 9 then z_let (s11 x15 8) (fun x16 => if z_ob a0 6 then z_bI (fX6_addSign fu s11 a0 a1 x14 1 x16) (fun x18 s17 => some (vI x18, s17)) else none) else none) else none)) else none) else none) else none) else none) else none) else none) else none) else none)) else none) else (fX6_stepBaseDue_J15 fu s2)))) else none
theorem gX6_stepBaseDue {l : Launch} {K : z_K} (hst : l.stackTraces = false) (fu : Nat) (s : z_M) (a0 : Int) (a1 : Int) : z_D l K mX6_stepBaseDue 3 71 0 0 [vR a0, vI a1] s (fX6_stepBaseDue fu s a0 a1) := by
  refine z_D_of (lv := [vR a0, vI a1]) hst z_mX6_stepBaseDue rfl ?_ (Nat.le_of_ble_eq_true rfl) rfl
  unfold fX6_stepBaseDue
  refine G_aload_n (x := a0) (pc := 0) dX6_stepBaseDue_0 rfl ?_
  refine G_getI (j := 2) (pc := 1) dX6_stepBaseDue_1 rfl z_CLX6 (by decide) z_wX6_56 (by decide) (fun x1 => ?_)
  refine G_iconst (pc := 4) dX6_stepBaseDue_4 ?_
  refine G_icmp_eq (tgt := 15) (pc := 5) dX6_stepBaseDue_5 ?_ ?_
  · refine G_fg (lv2 := [vU, vU]) ⟨Or.inl rfl, Or.inl rfl, trivial⟩ ?_
    exact gX6_stepBaseDue_J15 hst fu s
  · refine G_iload_n (x := a1) (pc := 8) dX6_stepBaseDue_8 rfl ?_
    refine G_callSI (as := [vI a1]) (st := []) (bc2 := 0) (bs2 := 0) (pc := 9) dX6_stepBaseDue_9 z_mX6_isBig z_sX6_isBig z_wX6_59 (gX6_isBig hst fu s a1) rfl rfl ⟨by decide, by decide, by decide, by decide, Nat.le_of_ble_eq_true rfl⟩ rfl (fun x3 s2 => ?_)
    refine G_if_ne (tgt := 17) (pc := 12) dX6_stepBaseDue_12 ?_ ?_
    · refine G_aload_n (x := a0) (pc := 17) dX6_stepBaseDue_17 rfl ?_
      refine G_dupR (pc := 18) dX6_stepBaseDue_18 ?_
      refine G_getI (j := 2) (pc := 19) dX6_stepBaseDue_19 rfl z_CLX6 (by decide) z_wX6_56 (by decide) (fun x4 => ?_)
      refine G_iconst (pc := 22) dX6_stepBaseDue_22 ?_
      refine G_iadd (pc := 23) dX6_stepBaseDue_23 (fun x5 => ?_)
      refine G_putI (j := 2) (pc := 24) dX6_stepBaseDue_24 rfl z_CLX6 (by decide) z_wX6_56 rfl (by decide) (by decide) (fun s6 => ?_)
      refine G_aload_n (x := a0) (pc := 27) dX6_stepBaseDue_27 rfl ?_
      refine G_iconst (pc := 28) dX6_stepBaseDue_28 ?_
      refine G_putI (j := 3) (pc := 29) dX6_stepBaseDue_29 rfl z_CLX6 (by decide) z_wX6_70 rfl (by decide) (by decide) (fun s7 => ?_)
      refine G_aload_n (x := a0) (pc := 32) dX6_stepBaseDue_32 rfl ?_
      refine G_aload_n (x := a0) (pc := 33) dX6_stepBaseDue_33 rfl ?_
      refine G_getR (j := 0) (pc := 34) dX6_stepBaseDue_34 rfl z_CLX6 (by decide) z_wX6_9 (by decide) (fun x8 => ?_)
      refine G_getI (j := 6) (pc := 37) dX6_stepBaseDue_37 rfl z_CLX9 (by decide) z_wX6_73 (by decide) (fun x9 => ?_)
      refine G_putI (j := 5) (pc := 40) dX6_stepBaseDue_40 rfl z_CLX6 (by decide) z_wX6_76 rfl (by decide) (by decide) (fun s10 => ?_)
      refine G_aload_n (x := a0) (pc := 43) dX6_stepBaseDue_43 rfl ?_
      refine G_iconst (pc := 44) dX6_stepBaseDue_44 ?_
      refine G_putI (j := 1) (pc := 45) dX6_stepBaseDue_45 rfl z_CLX6 (by decide) z_wX6_15 rfl (by decide) (by decide) (fun s11 => ?_)
      refine G_aload_n (x := a0) (pc := 48) dX6_stepBaseDue_48 rfl ?_
      refine G_iload_n (x := a1) (pc := 49) dX6_stepBaseDue_49 rfl ?_
      refine G_aload_n (x := a0) (pc := 50) dX6_stepBaseDue_50 rfl ?_
      refine G_getR (j := 0) (pc := 51) dX6_stepBaseDue_51 rfl z_CLX6 (by decide) z_wX6_9 (by decide) (fun x12 => ?_)
      refine G_getI (j := 7) (pc := 54) dX6_stepBaseDue_54 rfl z_CLX9 (by decide) z_wX6_53 (by decide) (fun x13 => ?_)
      refine G_iconst (pc := 57) dX6_stepBaseDue_57 ?_
      refine G_isub (pc := 58) dX6_stepBaseDue_58 (fun x14 => ?_)
      refine G_iconst (pc := 59) dX6_stepBaseDue_59 ?_
      refine G_aload_n (x := a0) (pc := 60) dX6_stepBaseDue_60 rfl ?_
      refine G_getR (j := 0) (pc := 61) dX6_stepBaseDue_61 rfl z_CLX6 (by decide) z_wX6_9 (by decide) (fun x15 => ?_)
      refine G_getI (j := 8) (pc := 64) dX6_stepBaseDue_64 rfl z_CLX9 (by decide) z_wX6_43 (by decide) (fun x16 => ?_)
      refine G_callVI (as := [vI a1, vI x14, vI 1, vI x16]) (st := []) (c := 6) (bc2 := 0) (bs2 := 0) (pc := 67) dX6_stepBaseDue_67 z_mX6_addSign z_vX6_addSign z_wX6_63 (gX6_addSign hst fu s11 a0 a1 x14 1 x16) rfl rfl (by decide) rfl rfl ⟨by decide, by decide, by decide, by decide, Nat.le_of_ble_eq_true rfl⟩ rfl (fun x18 s17 => ?_)
      exact G_iret (pc := 70) dX6_stepBaseDue_70
    · refine G_fg (lv2 := [vU, vU]) ⟨Or.inl rfl, Or.inl rfl, trivial⟩ ?_
      exact gX6_stepBaseDue_J15 hst fu s2
def fX10_markBit_J9 (fu : Nat) (s : z_M) (t0 : Int) : z_O := some (vI t0, s)
theorem gX10_markBit_J9 {l : Launch} {K : z_K} (hst : l.stackTraces = false) (fu : Nat) (s : z_M) (t0 : Int) : G l K mX10_markBit 0 0 0 0 9 [vU] [vI t0] s (fX10_markBit_J9 fu s t0) := by
  unfold fX10_markBit_J9
  exact G_iret (pc := 9) dX10_markBit_9
def fX10_markBit (fu : Nat) (s : z_M) (a0 : Int) : z_O := if (a0 : Int) ≠ 0 then (fX10_markBit_J9 fu s 2) else (fX10_markBit_J9 fu s 1)
theorem gX10_markBit {l : Launch} {K : z_K} (hst : l.stackTraces = false) (fu : Nat) (s : z_M) (a0 : Int) : z_D l K mX10_markBit 0 0 0 0 [vI a0] s (fX10_markBit fu s a0) := by
  refine z_D_of (lv := [vI a0]) hst z_mX10_markBit rfl ?_ (Nat.le_of_ble_eq_true rfl) rfl
  unfold fX10_markBit
  refine G_iload_n (x := a0) (pc := 0) dX10_markBit_0 rfl ?_
  refine G_if_ne (tgt := 8) (pc := 1) dX10_markBit_1 ?_ ?_
  · refine G_iconst (pc := 8) dX10_markBit_8 ?_
    refine G_fg (lv2 := [vU]) ⟨Or.inl rfl, trivial⟩ ?_
    exact gX10_markBit_J9 hst fu s 2
  · refine G_iconst (pc := 4) dX10_markBit_4 ?_
    refine G_goto (tgt := 9) (pc := 5) dX10_markBit_5 ?_
    refine G_fg (lv2 := [vU]) ⟨Or.inl rfl, trivial⟩ ?_
    exact gX10_markBit_J9 hst fu s 1
def fX6_standsAlone_J54 (fu : Nat) (s : z_M) (t0 : Int) : z_O := if z_bl t0 then some (vI t0, s) else none
theorem gX6_standsAlone_J54 {l : Launch} {K : z_K} (hst : l.stackTraces = false) (fu : Nat) (s : z_M) (t0 : Int) : G l K mX6_standsAlone 1 20 0 0 54 [vU] [vI t0] s (fX6_standsAlone_J54 fu s t0) := by
  unfold fX6_standsAlone_J54
  exact G_zret (pc := 54) dX6_standsAlone_54
def fX6_standsAlone_J49 (fu : Nat) (s : z_M) : z_O := fX6_standsAlone_J54 fu s 1
theorem gX6_standsAlone_J49 {l : Launch} {K : z_K} (hst : l.stackTraces = false) (fu : Nat) (s : z_M) : G l K mX6_standsAlone 1 20 0 0 49 [vU] [] s (fX6_standsAlone_J49 fu s) := by
  unfold fX6_standsAlone_J49
  refine G_iconst (pc := 49) dX6_standsAlone_49 ?_
  refine G_goto (tgt := 54) (pc := 50) dX6_standsAlone_50 ?_
  exact gX6_standsAlone_J54 hst fu s 1
def fX6_standsAlone_J19 (fu : Nat) (s : z_M) (a0 : Int) : z_O := if (a0 : Int) = 46 then (fX6_standsAlone_J49 fu s) else (if (a0 : Int) = 44 then (fX6_standsAlone_J49 fu s) else (if (a0 : Int) = 40 then (fX6_standsAlone_J49 fu s) else (if (a0 : Int) = 41 then (fX6_standsAlone_J49 fu s) else (if (a0 : Int) ≠ 32 then (fX6_standsAlone_J54 fu s 0) else (fX6_standsAlone_J49 fu s)))))
theorem gX6_standsAlone_J19 {l : Launch} {K : z_K} (hst : l.stackTraces = false) (fu : Nat) (s : z_M) (a0 : Int) : G l K mX6_standsAlone 1 20 0 0 19 [vI a0] [] s (fX6_standsAlone_J19 fu s a0) := by
  unfold fX6_standsAlone_J19
  refine G_iload_n (x := a0) (pc := 19) dX6_standsAlone_19 rfl ?_
  refine G_bipush (pc := 20) dX6_standsAlone_20 ?_
  refine G_icmp_eq (tgt := 49) (pc := 22) dX6_standsAlone_22 ?_ ?_
  · refine G_fg (lv2 := [vU]) ⟨Or.inl rfl, trivial⟩ ?_
    exact gX6_standsAlone_J49 hst fu s
  · refine G_iload_n (x := a0) (pc := 25) dX6_standsAlone_25 rfl ?_
    refine G_bipush (pc := 26) dX6_standsAlone_26 ?_
    refine G_icmp_eq (tgt := 49) (pc := 28) dX6_standsAlone_28 ?_ ?_
    · refine G_fg (lv2 := [vU]) ⟨Or.inl rfl, trivial⟩ ?_
      exact gX6_standsAlone_J49 hst fu s
    · refine G_iload_n (x := a0) (pc := 31) dX6_standsAlone_31 rfl ?_
      refine G_bipush (pc := 32) dX6_standsAlone_32 ?_
      refine G_icmp_eq (tgt := 49) (pc := 34) dX6_standsAlone_34 ?_ ?_
      · refine G_fg (lv2 := [vU]) ⟨Or.inl rfl, trivial⟩ ?_
        exact gX6_standsAlone_J49 hst fu s
      · refine G_iload_n (x := a0) (pc := 37) dX6_standsAlone_37 rfl ?_
        refine G_bipush (pc := 38) dX6_standsAlone_38 ?_
        refine G_icmp_eq (tgt := 49) (pc := 40) dX6_standsAlone_40 ?_ ?_
        · refine G_fg (lv2 := [vU]) ⟨Or.inl rfl, trivial⟩ ?_
          exact gX6_standsAlone_J49 hst fu s
        · refine G_iload_n (x := a0) (pc := 43) dX6_standsAlone_43 rfl ?_
          refine G_bipush (pc := 44) dX6_standsAlone_44 ?_
          refine G_icmp_ne (tgt := 53) (pc := 46) dX6_standsAlone_46 ?_ ?_
          · refine G_iconst (pc := 53) dX6_standsAlone_53 ?_
            refine G_fg (lv2 := [vU]) ⟨Or.inl rfl, trivial⟩ ?_
            exact gX6_standsAlone_J54 hst fu s 0
          · refine G_fg (lv2 := [vU]) ⟨Or.inl rfl, trivial⟩ ?_
            exact gX6_standsAlone_J49 hst fu s
def fX6_standsAlone (fu : Nat) (s : z_M) (a0 : Int) : z_O := z_bI (fX6_isSmall fu s a0) (fun x2 s1 => if (x2 : Int) ≠ 0 then (fX6_standsAlone_J49 fu s1) else (if (a0 : Int) < 48 then (fX6_standsAlone_J19 fu s1 a0) else (if (a0 : Int) ≤ 57 then (fX6_standsAlone_J49 fu s1) else (fX6_standsAlone_J19 fu s1 a0))))
theorem gX6_standsAlone {l : Launch} {K : z_K} (hst : l.stackTraces = false) (fu : Nat) (s : z_M) (a0 : Int) : z_D l K mX6_standsAlone 1 20 0 0 [vI a0] s (fX6_standsAlone fu s a0) := by
  refine z_D_of (lv := [vI a0]) hst z_mX6_standsAlone rfl ?_ (Nat.le_of_ble_eq_true rfl) rfl
  unfold fX6_standsAlone
  refine G_iload_n (x := a0) (pc := 0) dX6_standsAlone_0 rfl ?_
  refine G_callSI (as := [vI a0]) (st := []) (bc2 := 0) (bs2 := 0) (pc := 1) dX6_standsAlone_1 z_mX6_isSmall z_sX6_isSmall z_wX6_85 (gX6_isSmall hst fu s a0) rfl rfl ⟨by decide, by decide, by decide, by decide, Nat.le_of_ble_eq_true rfl⟩ rfl (fun x2 s1 => ?_)
  refine G_if_ne (tgt := 49) (pc := 4) dX6_standsAlone_4 ?_ ?_
  · refine G_fg (lv2 := [vU]) ⟨Or.inl rfl, trivial⟩ ?_
    exact gX6_standsAlone_J49 hst fu s1
  · refine G_iload_n (x := a0) (pc := 7) dX6_standsAlone_7 rfl ?_
    refine G_bipush (pc := 8) dX6_standsAlone_8 ?_
    refine G_icmp_lt (tgt := 19) (pc := 10) dX6_standsAlone_10 ?_ ?_
    · exact gX6_standsAlone_J19 hst fu s1 a0
    · refine G_iload_n (x := a0) (pc := 13) dX6_standsAlone_13 rfl ?_
      refine G_bipush (pc := 14) dX6_standsAlone_14 ?_
      refine G_icmp_le (tgt := 49) (pc := 16) dX6_standsAlone_16 ?_ ?_
      · refine G_fg (lv2 := [vU]) ⟨Or.inl rfl, trivial⟩ ?_
        exact gX6_standsAlone_J49 hst fu s1
      · exact gX6_standsAlone_J19 hst fu s1 a0
def fX6_stepOutside_J120 (fu : Nat) (s : z_M) (t0 : Int) : z_O := some (vI t0, s)
theorem gX6_stepOutside_J120 {l : Launch} {K : z_K} (hst : l.stackTraces = false) (fu : Nat) (s : z_M) (t0 : Int) : G l K mX6_stepOutside 3 71 0 0 120 [vU, vU] [vI t0] s (fX6_stepOutside_J120 fu s t0) := by
  unfold fX6_stepOutside_J120
  exact G_iret (pc := 120) dX6_stepOutside_120
def fX6_stepOutside (fu : Nat) (s : z_M) (a0 : Int) (a1 : Int) : z_O := if (a1 : Int) ≠ 42 then (if (a1 : Int) ≠ 95 then (if (a1 : Int) ≠ 123 then (z_bI (fX6_isBig fu s a1) (fun x2 s1 => if (x2 : Int) = 0 then (z_bI (fX6_standsAlone fu s1 a1) (fun x4 s3 => if (x4 : Int) = 0 then (fX6_stepOutside_J120 fu s3 1) else (if z_ob a0 6 then z_bI (fX6_addSign fu s3 a0 a1 (-1) 0 0) (fun x6 s5 => fX6_stepOutside_J120 fu s5 x6) else none))) else (if z_ob a0 6 then z_let (z_gr a0 0) (fun x7 => if z_ob x7 9 then z_let (s1 x7 8) (fun x8 => if z_ob a0 6 then z_bI (fX6_addSign fu s1 a0 a1 (-1) 0 x8) (fun x10 s9 => some (vI x10, s9)) else none) else none) else none))) else (if z_ob a0 6 then z_let (z_gr a0 0) (fun x11 => if z_ob x11 9 then z_let (s x11 7) (fun x12 => z_let (z_w (x12 + 1)) (fun x13 => if z_ob x11 9 then z_let (z_up s x11 7 x13) (fun s14 => if z_ob a0 6 then z_let (z_up s14 a0 2 0) (fun s15 => if z_ob a0 6 then z_let (z_up s15 a0 1 1) (fun s16 => some (vI 0, s16)) else none) else none) else none)) else none) else none)) else (if z_ob a0 6 then z_let (z_gr a0 0) (fun x17 => if z_ob x17 9 then z_let (s x17 8) (fun x18 => z_bI (fX10_markBit fu s 1) (fun x20 s19 => z_let (z_xor x18 x20) (fun x21 => if z_ob x17 9 then z_let (z_up s19 x17 8 x21) (fun s22 => some (vI 0, s22)) else none))) else none) else none)) else (if z_ob a0 6 then z_let (z_gr a0 0) (fun x23 => if z_ob x23 9 then z_let (s x23 8) (fun x24 => z_bI (fX10_markBit fu s 0) (fun x26 s25 => z_let (z_xor x24 x26) (fun x27 => if z_ob x23 9 then z_let (z_up s25 x23 8 x27) (fun s28 => some (vI 0, s28)) else none))) else none) else none)
theorem gX6_stepOutside {l : Launch} {K : z_K} (hst : l.stackTraces = false) (fu : Nat) (s : z_M) (a0 : Int) (a1 : Int) : z_D l K mX6_stepOutside 3 71 0 0 [vR a0, vI a1] s (fX6_stepOutside fu s a0 a1) := by
  refine z_D_of (lv := [vR a0, vI a1]) hst z_mX6_stepOutside rfl ?_ (Nat.le_of_ble_eq_true rfl) rfl
  unfold fX6_stepOutside
  refine G_iload_n (x := a1) (pc := 0) dX6_stepOutside_0 rfl ?_
  refine G_bipush (pc := 1) dX6_stepOutside_1 ?_
  refine G_icmp_ne (tgt := 24) (pc := 3) dX6_stepOutside_3 ?_ ?_
  · refine G_iload_n (x := a1) (pc := 24) dX6_stepOutside_24 rfl ?_
    refine G_bipush (pc := 25) dX6_stepOutside_25 ?_
    refine G_icmp_ne (tgt := 48) (pc := 27) dX6_stepOutside_27 ?_ ?_
    · refine G_iload_n (x := a1) (pc := 48) dX6_stepOutside_48 rfl ?_
      refine G_bipush (pc := 49) dX6_stepOutside_49 ?_
      refine G_icmp_ne (tgt := 79) (pc := 51) dX6_stepOutside_51 ?_ ?_
      · refine G_iload_n (x := a1) (pc := 79) dX6_stepOutside_79 rfl ?_
        refine G_callSI (as := [vI a1]) (st := []) (bc2 := 0) (bs2 := 0) (pc := 80) dX6_stepOutside_80 z_mX6_isBig z_sX6_isBig z_wX6_59 (gX6_isBig hst fu s a1) rfl rfl ⟨by decide, by decide, by decide, by decide, Nat.le_of_ble_eq_true rfl⟩ rfl (fun x2 s1 => ?_)
        refine G_if_eq (tgt := 101) (pc := 83) dX6_stepOutside_83 ?_ ?_
        · refine G_iload_n (x := a1) (pc := 101) dX6_stepOutside_101 rfl ?_
          refine G_callSI (as := [vI a1]) (st := []) (bc2 := 0) (bs2 := 0) (pc := 102) dX6_stepOutside_102 z_mX6_standsAlone z_sX6_standsAlone z_wX6_67 (gX6_standsAlone hst fu s1 a1) rfl rfl ⟨by decide, by decide, by decide, by decide, Nat.le_of_ble_eq_true rfl⟩ rfl (fun x4 s3 => ?_)
          refine G_if_eq (tgt := 119) (pc := 105) dX6_stepOutside_105 ?_ ?_
          · refine G_iconst (pc := 119) dX6_stepOutside_119 ?_
            refine G_fg (lv2 := [vU, vU]) ⟨Or.inl rfl, Or.inl rfl, trivial⟩ ?_
            exact gX6_stepOutside_J120 hst fu s3 1
          · refine G_aload_n (x := a0) (pc := 108) dX6_stepOutside_108 rfl ?_
            refine G_iload_n (x := a1) (pc := 109) dX6_stepOutside_109 rfl ?_
            refine G_iconst (pc := 110) dX6_stepOutside_110 ?_
            refine G_iconst (pc := 111) dX6_stepOutside_111 ?_
            refine G_iconst (pc := 112) dX6_stepOutside_112 ?_
            refine G_callVI (as := [vI a1, vI (-1), vI 0, vI 0]) (st := []) (c := 6) (bc2 := 0) (bs2 := 0) (pc := 113) dX6_stepOutside_113 z_mX6_addSign z_vX6_addSign z_wX6_63 (gX6_addSign hst fu s3 a0 a1 (-1) 0 0) rfl rfl (by decide) rfl rfl ⟨by decide, by decide, by decide, by decide, Nat.le_of_ble_eq_true rfl⟩ rfl (fun x6 s5 => ?_)
            refine G_goto (tgt := 120) (pc := 116) dX6_stepOutside_116 ?_
            refine G_fg (lv2 := [vU, vU]) ⟨Or.inl rfl, Or.inl rfl, trivial⟩ ?_
            exact gX6_stepOutside_J120 hst fu s5 x6
        · refine G_aload_n (x := a0) (pc := 86) dX6_stepOutside_86 rfl ?_
          refine G_iload_n (x := a1) (pc := 87) dX6_stepOutside_87 rfl ?_
          refine G_iconst (pc := 88) dX6_stepOutside_88 ?_
          refine G_iconst (pc := 89) dX6_stepOutside_89 ?_
          refine G_aload_n (x := a0) (pc := 90) dX6_stepOutside_90 rfl ?_
          refine G_getR (j := 0) (pc := 91) dX6_stepOutside_91 rfl z_CLX6 (by decide) z_wX6_9 (by decide) (fun x7 => ?_)
          refine G_getI (j := 8) (pc := 94) dX6_stepOutside_94 rfl z_CLX9 (by decide) z_wX6_43 (by decide) (fun x8 => ?_)
          refine G_callVI (as := [vI a1, vI (-1), vI 0, vI x8]) (st := []) (c := 6) (bc2 := 0) (bs2 := 0) (pc := 97) dX6_stepOutside_97 z_mX6_addSign z_vX6_addSign z_wX6_63 (gX6_addSign hst fu s1 a0 a1 (-1) 0 x8) rfl rfl (by decide) rfl rfl ⟨by decide, by decide, by decide, by decide, Nat.le_of_ble_eq_true rfl⟩ rfl (fun x10 s9 => ?_)
          exact G_iret (pc := 100) dX6_stepOutside_100
      · refine G_aload_n (x := a0) (pc := 54) dX6_stepOutside_54 rfl ?_
        refine G_getR (j := 0) (pc := 55) dX6_stepOutside_55 rfl z_CLX6 (by decide) z_wX6_9 (by decide) (fun x11 => ?_)
        refine G_dupR (pc := 58) dX6_stepOutside_58 ?_
        refine G_getI (j := 7) (pc := 59) dX6_stepOutside_59 rfl z_CLX9 (by decide) z_wX6_53 (by decide) (fun x12 => ?_)
        refine G_iconst (pc := 62) dX6_stepOutside_62 ?_
        refine G_iadd (pc := 63) dX6_stepOutside_63 (fun x13 => ?_)
        refine G_putI (j := 7) (pc := 64) dX6_stepOutside_64 rfl z_CLX9 (by decide) z_wX6_53 rfl (by decide) (by decide) (fun s14 => ?_)
        refine G_aload_n (x := a0) (pc := 67) dX6_stepOutside_67 rfl ?_
        refine G_iconst (pc := 68) dX6_stepOutside_68 ?_
        refine G_putI (j := 2) (pc := 69) dX6_stepOutside_69 rfl z_CLX6 (by decide) z_wX6_56 rfl (by decide) (by decide) (fun s15 => ?_)
        refine G_aload_n (x := a0) (pc := 72) dX6_stepOutside_72 rfl ?_
        refine G_iconst (pc := 73) dX6_stepOutside_73 ?_
        refine G_putI (j := 1) (pc := 74) dX6_stepOutside_74 rfl z_CLX6 (by decide) z_wX6_15 rfl (by decide) (by decide) (fun s16 => ?_)
        refine G_iconst (pc := 77) dX6_stepOutside_77 ?_
        exact G_iret (pc := 78) dX6_stepOutside_78
    · refine G_aload_n (x := a0) (pc := 30) dX6_stepOutside_30 rfl ?_
      refine G_getR (j := 0) (pc := 31) dX6_stepOutside_31 rfl z_CLX6 (by decide) z_wX6_9 (by decide) (fun x17 => ?_)
      refine G_dupR (pc := 34) dX6_stepOutside_34 ?_
      refine G_getI (j := 8) (pc := 35) dX6_stepOutside_35 rfl z_CLX9 (by decide) z_wX6_43 (by decide) (fun x18 => ?_)
      refine G_iconst (pc := 38) dX6_stepOutside_38 ?_
      refine G_callSI (as := [vI 1]) (st := [vI x18, vR x17]) (bc2 := 0) (bs2 := 0) (pc := 39) dX6_stepOutside_39 z_mX10_markBit z_sX10_markBit z_wX6_48 (gX10_markBit hst fu s 1) rfl rfl ⟨by decide, by decide, by decide, by decide, Nat.le_of_ble_eq_true rfl⟩ rfl (fun x20 s19 => ?_)
      refine G_ixor (pc := 42) dX6_stepOutside_42 (fun x21 => ?_)
      refine G_putI (j := 8) (pc := 43) dX6_stepOutside_43 rfl z_CLX9 (by decide) z_wX6_43 rfl (by decide) (by decide) (fun s22 => ?_)
      refine G_iconst (pc := 46) dX6_stepOutside_46 ?_
      exact G_iret (pc := 47) dX6_stepOutside_47
  · refine G_aload_n (x := a0) (pc := 6) dX6_stepOutside_6 rfl ?_
    refine G_getR (j := 0) (pc := 7) dX6_stepOutside_7 rfl z_CLX6 (by decide) z_wX6_9 (by decide) (fun x23 => ?_)
    refine G_dupR (pc := 10) dX6_stepOutside_10 ?_
    refine G_getI (j := 8) (pc := 11) dX6_stepOutside_11 rfl z_CLX9 (by decide) z_wX6_43 (by decide) (fun x24 => ?_)
    refine G_iconst (pc := 14) dX6_stepOutside_14 ?_
    refine G_callSI (as := [vI 0]) (st := [vI x24, vR x23]) (bc2 := 0) (bs2 := 0) (pc := 15) dX6_stepOutside_15 z_mX10_markBit z_sX10_markBit z_wX6_48 (gX10_markBit hst fu s 0) rfl rfl ⟨by decide, by decide, by decide, by decide, Nat.le_of_ble_eq_true rfl⟩ rfl (fun x26 s25 => ?_)
    refine G_ixor (pc := 18) dX6_stepOutside_18 (fun x27 => ?_)
    refine G_putI (j := 8) (pc := 19) dX6_stepOutside_19 rfl z_CLX9 (by decide) z_wX6_43 rfl (by decide) (by decide) (fun s28 => ?_)
    refine G_iconst (pc := 22) dX6_stepOutside_22 ?_
    exact G_iret (pc := 23) dX6_stepOutside_23
