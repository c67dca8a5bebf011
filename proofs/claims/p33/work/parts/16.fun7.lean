/-! FUNCTIONS, further (by program) -/
def fX12_at_L89 (fu : Nat) (a0 : Int) (a1 : Int) (a2 : Int) (a3 : Int) : Nat → z_M → Int → (z_M → z_O) → z_O
  | 0, _, _, _ => none
  | F + 1, s, a4, k => if z_ob a0 12 then z_let (z_gr a0 22) (fun x18 => if z_ix x18 100 a3 then z_let (s x18 a3) (fun x19 => if z_ob a0 12 then z_let (z_gr a0 23) (fun x20 => if z_ix x20 100 a3 then z_let (s x20 a3) (fun x21 => z_let (z_w (x19 + x21)) (fun x22 => if (x22 : Int) ≤ a4 then (k s) else (if z_ob a0 12 then z_let (z_gr a0 50) (fun x23 => if z_ix x23 100 a4 then z_let (s x23 a4) (fun x24 => if z_ob a0 12 then z_let (z_gr a0 50) (fun x25 => if z_ix x25 100 a4 then z_let (s x25 a4) (fun x26 => if z_ob a0 12 then z_bI (fX12_signLong fu s a0 a4) (fun x28 s27 => z_let (z_w (x26 + x28)) (fun x29 => z_let (z_w (x29 - 1)) (fun x30 => z_bI (fX12_in fu s27 a2 x24 x30) (fun x32 s31 => if (x32 : Int) = 0 then (z_let (z_w (a4 + 1)) (fun x33 => fX12_at_L89 fu a0 a1 a2 a3 F s31 x33 k)) else (some (vI a4, s31)))))) else none) else none) else none) else none) else none))) else none) else none) else none) else none
theorem gX12_at_L89 {l : Launch} {K : z_K} (hst : l.stackTraces = false) (fu : Nat) (a0 : Int) (a1 : Int) (a2 : Int) (a3 : Int) (k : z_M → z_O) (hk : ∀ (s : z_M), G l K mX12_at 11 250 0 0 146 [vR a0, vI a1, vI a2, vI a3, vU] [] s (k s)) : ∀ (F : Nat) (s : z_M) (a4 : Int), G l K mX12_at 11 250 0 0 89 [vR a0, vI a1, vI a2, vI a3, vI a4] [] s (fX12_at_L89 fu a0 a1 a2 a3 F s a4 k) := by
  intro F
  induction F with
  | zero => exact fun s a4 h => absurd rfl h
  | succ F ih =>
    intro s a4
    rw [fX12_at_L89]
    refine G_iload (x := a4) (pc := 89) dX12_at_89 rfl ?_
    refine G_aload_n (x := a0) (pc := 91) dX12_at_91 rfl ?_
    refine G_getR (j := 22) (pc := 92) dX12_at_92 rfl z_CLX12 (by decide) z_wX12_57 (by decide) (fun x18 => ?_)
    refine G_iload_n (x := a3) (pc := 95) dX12_at_95 rfl ?_
    refine G_iald (pc := 96) dX12_at_96 (fun x19 => ?_)
    refine G_aload_n (x := a0) (pc := 97) dX12_at_97 rfl ?_
    refine G_getR (j := 23) (pc := 98) dX12_at_98 rfl z_CLX12 (by decide) z_wX12_60 (by decide) (fun x20 => ?_)
    refine G_iload_n (x := a3) (pc := 101) dX12_at_101 rfl ?_
    refine G_iald (pc := 102) dX12_at_102 (fun x21 => ?_)
    refine G_iadd (pc := 103) dX12_at_103 (fun x22 => ?_)
    refine G_icmp_ge (tgt := 146) (pc := 104) dX12_at_104 ?_ ?_
    · refine G_fg (lv2 := [vR a0, vI a1, vI a2, vI a3, vU]) ⟨Or.inr rfl, Or.inr rfl, Or.inr rfl, Or.inr rfl, Or.inl rfl, trivial⟩ ?_
      exact hk s
    · refine G_iload_n (x := a2) (pc := 107) dX12_at_107 rfl ?_
      refine G_aload_n (x := a0) (pc := 108) dX12_at_108 rfl ?_
      refine G_getR (j := 50) (pc := 109) dX12_at_109 rfl z_CLX12 (by decide) z_wX12_125 (by decide) (fun x23 => ?_)
      refine G_iload (x := a4) (pc := 112) dX12_at_112 rfl ?_
      refine G_iald (pc := 114) dX12_at_114 (fun x24 => ?_)
      refine G_aload_n (x := a0) (pc := 115) dX12_at_115 rfl ?_
      refine G_getR (j := 50) (pc := 116) dX12_at_116 rfl z_CLX12 (by decide) z_wX12_125 (by decide) (fun x25 => ?_)
      refine G_iload (x := a4) (pc := 119) dX12_at_119 rfl ?_
      refine G_iald (pc := 121) dX12_at_121 (fun x26 => ?_)
      refine G_aload_n (x := a0) (pc := 122) dX12_at_122 rfl ?_
      refine G_iload (x := a4) (pc := 123) dX12_at_123 rfl ?_
      refine G_callVI (as := [vI a4]) (st := [vI x26, vI x24, vI a2]) (c := 12) (bc2 := 0) (bs2 := 0) (pc := 125) dX12_at_125 z_mX12_signLong z_vX12_signLong z_wX12_276 (gX12_signLong hst fu s a0 a4) rfl rfl (by decide) rfl rfl ⟨by decide, by decide, by decide, by decide, Nat.le_of_ble_eq_true rfl⟩ rfl (fun x28 s27 => ?_)
      refine G_iadd (pc := 128) dX12_at_128 (fun x29 => ?_)
      refine G_iconst (pc := 129) dX12_at_129 ?_
      refine G_isub (pc := 130) dX12_at_130 (fun x30 => ?_)
      refine G_callSI (as := [vI a2, vI x24, vI x30]) (st := []) (bc2 := 0) (bs2 := 0) (pc := 131) dX12_at_131 z_mX12_in z_sX12_in z_wX12_245 (gX12_in hst fu s27 a2 x24 x30) rfl rfl ⟨by decide, by decide, by decide, by decide, Nat.le_of_ble_eq_true rfl⟩ rfl (fun x32 s31 => ?_)
      refine G_if_eq (tgt := 140) (pc := 134) dX12_at_134 ?_ ?_
      · refine G_iinc (x := a4) (g := fun x33 => [vR a0, vI a1, vI a2, vI a3, vI x33]) (pc := 140) dX12_at_140 rfl (fun _ => rfl) (fun x33 => ?_)
        refine G_goto (tgt := 89) (pc := 143) dX12_at_143 ?_
        exact ih s31 x33
      · refine G_iload (x := a4) (pc := 137) dX12_at_137 rfl ?_
        exact G_iret (pc := 139) dX12_at_139
def fX12_at_J146 (fu : Nat) (s : z_M) (a0 : Int) (a1 : Int) (a2 : Int) (a3 : Int) (r : z_M → Int → z_O) (k : z_M → z_O) : z_O := z_let (z_w (a3 + 1)) (fun x35 => r s x35)
theorem gX12_at_J146 {l : Launch} {K : z_K} (hst : l.stackTraces = false) (fu : Nat) (s : z_M) (a0 : Int) (a1 : Int) (a2 : Int) (a3 : Int) (r : z_M → Int → z_O) (k : z_M → z_O) (hr : ∀ (s : z_M) (a3 : Int), G l K mX12_at 11 250 0 0 46 [vR a0, vI a1, vI a2, vI a3, vU] [] s (r s a3)) (hk : ∀ (s : z_M), G l K mX12_at 11 250 0 0 152 [vU, vU, vU, vU, vU] [] s (k s)) : G l K mX12_at 11 250 0 0 146 [vR a0, vI a1, vI a2, vI a3, vU] [] s (fX12_at_J146 fu s a0 a1 a2 a3 r k) := by
  unfold fX12_at_J146
  refine G_iinc (x := a3) (g := fun x35 => [vR a0, vI a1, vI a2, vI x35, vU]) (pc := 146) dX12_at_146 rfl (fun _ => rfl) (fun x35 => ?_)
  refine G_goto (tgt := 46) (pc := 149) dX12_at_149 ?_
  exact hr s x35
def fX12_at_J81 (fu : Nat) (s : z_M) (a0 : Int) (a1 : Int) (a2 : Int) (a3 : Int) (r : z_M → Int → z_O) (k : z_M → z_O) : z_O := if z_ob a0 12 then z_let (z_gr a0 22) (fun x16 => if z_ix x16 100 a3 then z_let (s x16 a3) (fun x17 => fX12_at_L89 fu a0 a1 a2 a3 fu s x17 (fun s34 => fX12_at_J146 fu s34 a0 a1 a2 a3 (fun w v3 => r w v3) k)) else none) else none
theorem gX12_at_J81 {l : Launch} {K : z_K} (hst : l.stackTraces = false) (fu : Nat) (s : z_M) (a0 : Int) (a1 : Int) (a2 : Int) (a3 : Int) (r : z_M → Int → z_O) (k : z_M → z_O) (hr : ∀ (s : z_M) (a3 : Int), G l K mX12_at 11 250 0 0 46 [vR a0, vI a1, vI a2, vI a3, vU] [] s (r s a3)) (hk : ∀ (s : z_M), G l K mX12_at 11 250 0 0 152 [vU, vU, vU, vU, vU] [] s (k s)) : G l K mX12_at 11 250 0 0 81 [vR a0, vI a1, vI a2, vI a3, vU] [] s (fX12_at_J81 fu s a0 a1 a2 a3 r k) := by
  unfold fX12_at_J81
  refine G_aload_n (x := a0) (pc := 81) dX12_at_81 rfl ?_
  refine G_getR (j := 22) (pc := 82) dX12_at_82 rfl z_CLX12 (by decide) z_wX12_57 (by decide) (fun x16 => ?_)
  refine G_iload_n (x := a3) (pc := 85) dX12_at_85 rfl ?_
  refine G_iald (pc := 86) dX12_at_86 (fun x17 => ?_)
  refine G_istore (lv' := [vR a0, vI a1, vI a2, vI a3, vI x17]) (pc := 87) dX12_at_87 rfl ?_
  refine gX12_at_L89 hst fu a0 a1 a2 a3 _ (fun s34 => ?_) fu s x17
  exact gX12_at_J146 hst fu s34 a0 a1 a2 a3 _ _ (fun w v3 => hr w v3) hk
def fX12_at_L46 (fu : Nat) (a0 : Int) (a1 : Int) (a2 : Int) : Nat → z_M → Int → (z_M → z_O) → z_O
  | 0, _, _, _ => none
  | F + 1, s, a3, k => if z_ob a0 12 then z_let (z_gr a0 45) (fun x11 => z_let (z_w (a1 + 1)) (fun x12 => if z_ix x11 100 x12 then z_let (s x11 x12) (fun x13 => if (x13 : Int) ≤ a3 then (k s) else (if z_ob a0 12 then z_let (z_gr a0 21) (fun x14 => if z_ix x14 100 a3 then z_let (s x14 a3) (fun x15 => if (x15 : Int) ≠ 6 then (fX12_at_J81 fu s a0 a1 a2 a3 (fun w v3 => fX12_at_L46 fu a0 a1 a2 F w v3 k) k) else (if z_ob a0 12 then z_let (z_gr a0 52) (fun x36 => if z_ix x36 100 a3 then z_let (s x36 a3) (fun x37 => if (x37 : Int) ≠ 0 then (fX12_at_J81 fu s a0 a1 a2 a3 (fun w v3 => fX12_at_L46 fu a0 a1 a2 F w v3 k) k) else (fX12_at_J146 fu s a0 a1 a2 a3 (fun w v3 => fX12_at_L46 fu a0 a1 a2 F w v3 k) k)) else none) else none)) else none) else none)) else none)) else none
theorem gX12_at_L46 {l : Launch} {K : z_K} (hst : l.stackTraces = false) (fu : Nat) (a0 : Int) (a1 : Int) (a2 : Int) (k : z_M → z_O) (hk : ∀ (s : z_M), G l K mX12_at 11 250 0 0 152 [vU, vU, vU, vU, vU] [] s (k s)) : ∀ (F : Nat) (s : z_M) (a3 : Int), G l K mX12_at 11 250 0 0 46 [vR a0, vI a1, vI a2, vI a3, vU] [] s (fX12_at_L46 fu a0 a1 a2 F s a3 k) := by
  intro F
  induction F with
  | zero => exact fun s a3 h => absurd rfl h
  | succ F ih =>
    intro s a3
    rw [fX12_at_L46]
    refine G_iload_n (x := a3) (pc := 46) dX12_at_46 rfl ?_
    refine G_aload_n (x := a0) (pc := 47) dX12_at_47 rfl ?_
    refine G_getR (j := 45) (pc := 48) dX12_at_48 rfl z_CLX12 (by decide) z_wX12_109 (by decide) (fun x11 => ?_)
    refine G_iload_n (x := a1) (pc := 51) dX12_at_51 rfl ?_
    refine G_iconst (pc := 52) dX12_at_52 ?_
    refine G_iadd (pc := 53) dX12_at_53 (fun x12 => ?_)
    refine G_iald (pc := 54) dX12_at_54 (fun x13 => ?_)
    refine G_icmp_ge (tgt := 152) (pc := 55) dX12_at_55 ?_ ?_
    · refine G_fg (lv2 := [vU, vU, vU, vU, vU]) ⟨Or.inl rfl, Or.inl rfl, Or.inl rfl, Or.inl rfl, Or.inl rfl, trivial⟩ ?_
      exact hk s
    · refine G_aload_n (x := a0) (pc := 58) dX12_at_58 rfl ?_
      refine G_getR (j := 21) (pc := 59) dX12_at_59 rfl z_CLX12 (by decide) z_wX12_54 (by decide) (fun x14 => ?_)
      refine G_iload_n (x := a3) (pc := 62) dX12_at_62 rfl ?_
      refine G_iald (pc := 63) dX12_at_63 (fun x15 => ?_)
      refine G_bipush (pc := 64) dX12_at_64 ?_
      refine G_icmp_ne (tgt := 81) (pc := 66) dX12_at_66 ?_ ?_
      · exact gX12_at_J81 hst fu s a0 a1 a2 a3 _ _ (fun w v3 => ih w v3) hk
      · refine G_aload_n (x := a0) (pc := 69) dX12_at_69 rfl ?_
        refine G_getR (j := 52) (pc := 70) dX12_at_70 rfl z_CLX12 (by decide) z_wX12_131 (by decide) (fun x36 => ?_)
        refine G_iload_n (x := a3) (pc := 73) dX12_at_73 rfl ?_
        refine G_iald (pc := 74) dX12_at_74 (fun x37 => ?_)
        refine G_if_ne (tgt := 81) (pc := 75) dX12_at_75 ?_ ?_
        · exact gX12_at_J81 hst fu s a0 a1 a2 a3 _ _ (fun w v3 => ih w v3) hk
        · refine G_goto (tgt := 146) (pc := 78) dX12_at_78 ?_
          exact gX12_at_J146 hst fu s a0 a1 a2 a3 _ _ (fun w v3 => ih w v3) hk
def fX12_at_J29 (fu : Nat) (s : z_M) (a0 : Int) (a1 : Int) (a2 : Int) (t0 : Int) (t1 : Int) : z_O := if z_ob t0 12 then z_bI (fX12_bad fu s t0 t1 1 0) (fun x8 s7 => if (x8 : Int) = 0 then (if z_ob a0 12 then z_let (z_gr a0 45) (fun x9 => if z_ix x9 100 a1 then z_let (s7 x9 a1) (fun x10 => fX12_at_L46 fu a0 a1 a2 fu s7 x10 (fun s38 => some (vI (-1), s38))) else none) else none) else (some (vI 0, s7))) else none
theorem gX12_at_J29 {l : Launch} {K : z_K} (hst : l.stackTraces = false) (fu : Nat) (s : z_M) (a0 : Int) (a1 : Int) (a2 : Int) (t0 : Int) (t1 : Int) : G l K mX12_at 11 250 0 0 29 [vR a0, vI a1, vI a2, vU, vU] [vI t1, vR t0] s (fX12_at_J29 fu s a0 a1 a2 t0 t1) := by
  unfold fX12_at_J29
  refine G_iconst (pc := 29) dX12_at_29 ?_
  refine G_iconst (pc := 30) dX12_at_30 ?_
  refine G_callVI (as := [vI t1, vI 1, vI 0]) (st := []) (c := 12) (bc2 := 0) (bs2 := 0) (pc := 31) dX12_at_31 z_mX12_bad z_vX12_bad z_wX12_249 (gX12_bad hst fu s t0 t1 1 0) rfl rfl (by decide) rfl rfl ⟨by decide, by decide, by decide, by decide, Nat.le_of_ble_eq_true rfl⟩ rfl (fun x8 s7 => ?_)
  refine G_if_eq (tgt := 39) (pc := 34) dX12_at_34 ?_ ?_
  · refine G_aload_n (x := a0) (pc := 39) dX12_at_39 rfl ?_
    refine G_getR (j := 45) (pc := 40) dX12_at_40 rfl z_CLX12 (by decide) z_wX12_109 (by decide) (fun x9 => ?_)
    refine G_iload_n (x := a1) (pc := 43) dX12_at_43 rfl ?_
    refine G_iald (pc := 44) dX12_at_44 (fun x10 => ?_)
    refine G_istore_n (lv' := [vR a0, vI a1, vI a2, vI x10, vU]) (pc := 45) dX12_at_45 rfl ?_
    refine gX12_at_L46 hst fu a0 a1 a2 _ (fun s38 => ?_) fu s7 x10
    refine G_iconst (pc := 152) dX12_at_152 ?_
    exact G_iret (pc := 153) dX12_at_153
  · refine G_iconst (pc := 37) dX12_at_37 ?_
    exact G_iret (pc := 38) dX12_at_38
def fX12_at (fu : Nat) (s : z_M) (a0 : Int) (a1 : Int) (a2 : Int) : z_O := if z_ob a0 12 then z_let (z_up s a0 0 0) (fun s1 => if z_ob a0 12 then z_bN (fX12_laysAll fu s1 a0) (fun s2 => if z_ob a0 12 then z_let (s2 a0 44) (fun x3 => z_let (z_w (x3 - 1)) (fun x4 => z_bI (fX12_in fu s2 a1 0 x4) (fun x6 s5 => if (x6 : Int) ≠ 0 then (fX12_at_J29 fu s5 a0 a1 a2 a0 0) else (fX12_at_J29 fu s5 a0 a1 a2 a0 1)))) else none) else none) else none
theorem gX12_at {l : Launch} {K : z_K} (hst : l.stackTraces = false) (fu : Nat) (s : z_M) (a0 : Int) (a1 : Int) (a2 : Int) : z_D l K mX12_at 11 250 0 0 [vR a0, vI a1, vI a2] s (fX12_at fu s a0 a1 a2) := by
  refine z_D_of (lv := [vR a0, vI a1, vI a2, vU, vU]) hst z_mX12_at rfl ?_ (Nat.le_of_ble_eq_true rfl) rfl
  unfold fX12_at
  refine G_aload_n (x := a0) (pc := 0) dX12_at_0 rfl ?_
  refine G_iconst (pc := 1) dX12_at_1 ?_
  refine G_putI (j := 0) (pc := 2) dX12_at_2 rfl z_CLX12 (by decide) z_wX12_170 rfl (by decide) (by decide) (fun s1 => ?_)
  refine G_aload_n (x := a0) (pc := 5) dX12_at_5 rfl ?_
  refine G_callVN (as := []) (st := []) (c := 12) (bc2 := 0) (bs2 := 0) (pc := 6) dX12_at_6 z_mX12_laysAll z_vX12_laysAll z_wX12_371 (gX12_laysAll hst fu s1 a0) rfl rfl (by decide) rfl rfl ⟨by decide, by decide, by decide, by decide, Nat.le_of_ble_eq_true rfl⟩ rfl (fun s2 => ?_)
  refine G_aload_n (x := a0) (pc := 9) dX12_at_9 rfl ?_
  refine G_iload_n (x := a1) (pc := 10) dX12_at_10 rfl ?_
  refine G_iconst (pc := 11) dX12_at_11 ?_
  refine G_aload_n (x := a0) (pc := 12) dX12_at_12 rfl ?_
  refine G_getI (j := 44) (pc := 13) dX12_at_13 rfl z_CLX12 (by decide) z_wX12_365 (by decide) (fun x3 => ?_)
  refine G_iconst (pc := 16) dX12_at_16 ?_
  refine G_isub (pc := 17) dX12_at_17 (fun x4 => ?_)
  refine G_callSI (as := [vI a1, vI 0, vI x4]) (st := [vR a0]) (bc2 := 0) (bs2 := 0) (pc := 18) dX12_at_18 z_mX12_in z_sX12_in z_wX12_245 (gX12_in hst fu s2 a1 0 x4) rfl rfl ⟨by decide, by decide, by decide, by decide, Nat.le_of_ble_eq_true rfl⟩ rfl (fun x6 s5 => ?_)
  refine G_if_ne (tgt := 28) (pc := 21) dX12_at_21 ?_ ?_
  · refine G_iconst (pc := 28) dX12_at_28 ?_
    exact gX12_at_J29 hst fu s5 a0 a1 a2 a0 0
  · refine G_iconst (pc := 24) dX12_at_24 ?_
    refine G_goto (tgt := 29) (pc := 25) dX12_at_25 ?_
    exact gX12_at_J29 hst fu s5 a0 a1 a2 a0 1
def fX12_partner_J19 (fu : Nat) (s : z_M) (a0 : Int) (a1 : Int) (t0 : Int) (t1 : Int) : z_O := if z_ob t0 12 then z_bI (fX12_bad fu s t0 t1 1 0) (fun x5 s4 => if (x5 : Int) = 0 then (if z_ob a0 12 then z_bN (fX12_freshens fu s4 a0) (fun s6 => if z_ob a0 12 then z_let (z_gr a0 40) (fun x7 => if z_ix x7 100 a1 then z_let (s6 x7 a1) (fun x8 => some (vI x8, s6)) else none) else none) else none) else (some (vI 0, s4))) else none
theorem gX12_partner_J19 {l : Launch} {K : z_K} (hst : l.stackTraces = false) (fu : Nat) (s : z_M) (a0 : Int) (a1 : Int) (t0 : Int) (t1 : Int) : G l K mX12_partner 6 134 0 0 19 [vR a0, vI a1] [vI t1, vR t0] s (fX12_partner_J19 fu s a0 a1 t0 t1) := by
  unfold fX12_partner_J19
  refine G_iconst (pc := 19) dX12_partner_19 ?_
  refine G_iconst (pc := 20) dX12_partner_20 ?_
  refine G_callVI (as := [vI t1, vI 1, vI 0]) (st := []) (c := 12) (bc2 := 0) (bs2 := 0) (pc := 21) dX12_partner_21 z_mX12_bad z_vX12_bad z_wX12_249 (gX12_bad hst fu s t0 t1 1 0) rfl rfl (by decide) rfl rfl ⟨by decide, by decide, by decide, by decide, Nat.le_of_ble_eq_true rfl⟩ rfl (fun x5 s4 => ?_)
  refine G_if_eq (tgt := 29) (pc := 24) dX12_partner_24 ?_ ?_
  · refine G_aload_n (x := a0) (pc := 29) dX12_partner_29 rfl ?_
    refine G_callVN (as := []) (st := []) (c := 12) (bc2 := 0) (bs2 := 0) (pc := 30) dX12_partner_30 z_mX12_freshens z_vX12_freshens z_wX12_326 (gX12_freshens hst fu s4 a0) rfl rfl (by decide) rfl rfl ⟨by decide, by decide, by decide, by decide, Nat.le_of_ble_eq_true rfl⟩ rfl (fun s6 => ?_)
    refine G_aload_n (x := a0) (pc := 33) dX12_partner_33 rfl ?_
    refine G_getR (j := 40) (pc := 34) dX12_partner_34 rfl z_CLX12 (by decide) z_wX12_99 (by decide) (fun x7 => ?_)
    refine G_iload_n (x := a1) (pc := 37) dX12_partner_37 rfl ?_
    refine G_iald (pc := 38) dX12_partner_38 (fun x8 => ?_)
    exact G_iret (pc := 39) dX12_partner_39
  · refine G_iconst (pc := 27) dX12_partner_27 ?_
    exact G_iret (pc := 28) dX12_partner_28
def fX12_partner (fu : Nat) (s : z_M) (a0 : Int) (a1 : Int) : z_O := if z_ob a0 12 then z_let (z_up s a0 0 0) (fun s1 => if z_ob a0 12 then z_bI (fX12_isUnit fu s1 a0 a1) (fun x3 s2 => if (x3 : Int) ≠ 0 then (fX12_partner_J19 fu s2 a0 a1 a0 0) else (fX12_partner_J19 fu s2 a0 a1 a0 1)) else none) else none
theorem gX12_partner {l : Launch} {K : z_K} (hst : l.stackTraces = false) (fu : Nat) (s : z_M) (a0 : Int) (a1 : Int) : z_D l K mX12_partner 6 134 0 0 [vR a0, vI a1] s (fX12_partner fu s a0 a1) := by
  refine z_D_of (lv := [vR a0, vI a1]) hst z_mX12_partner rfl ?_ (Nat.le_of_ble_eq_true rfl) rfl
  unfold fX12_partner
  refine G_aload_n (x := a0) (pc := 0) dX12_partner_0 rfl ?_
  refine G_iconst (pc := 1) dX12_partner_1 ?_
  refine G_putI (j := 0) (pc := 2) dX12_partner_2 rfl z_CLX12 (by decide) z_wX12_170 rfl (by decide) (by decide) (fun s1 => ?_)
  refine G_aload_n (x := a0) (pc := 5) dX12_partner_5 rfl ?_
  refine G_aload_n (x := a0) (pc := 6) dX12_partner_6 rfl ?_
  refine G_iload_n (x := a1) (pc := 7) dX12_partner_7 rfl ?_
  refine G_callVI (as := [vI a1]) (st := [vR a0]) (c := 12) (bc2 := 0) (bs2 := 0) (pc := 8) dX12_partner_8 z_mX12_isUnit z_vX12_isUnit z_wX12_384 (gX12_isUnit hst fu s1 a0 a1) rfl rfl (by decide) rfl rfl ⟨by decide, by decide, by decide, by decide, Nat.le_of_ble_eq_true rfl⟩ rfl (fun x3 s2 => ?_)
  refine G_if_ne (tgt := 18) (pc := 11) dX12_partner_11 ?_ ?_
  · refine G_iconst (pc := 18) dX12_partner_18 ?_
    exact gX12_partner_J19 hst fu s2 a0 a1 a0 0
  · refine G_iconst (pc := 14) dX12_partner_14 ?_
    refine G_goto (tgt := 19) (pc := 15) dX12_partner_15 ?_
    exact gX12_partner_J19 hst fu s2 a0 a1 a0 1
def fX12_isLine (fu : Nat) (s : z_M) (a0 : Int) (a1 : Int) : z_O := if z_ob a0 12 then z_bN (fX12_laysAll fu s a0) (fun s1 => if z_ob a0 12 then z_let (s1 a0 44) (fun x2 => z_let (z_w (x2 - 1)) (fun x3 => z_bI (fX12_in fu s1 a1 0 x3) (fun x5 s4 => if z_bl x5 then some (vI x5, s4) else none))) else none) else none
theorem gX12_isLine {l : Launch} {K : z_K} (hst : l.stackTraces = false) (fu : Nat) (s : z_M) (a0 : Int) (a1 : Int) : z_D l K mX12_isLine 11 250 0 0 [vR a0, vI a1] s (fX12_isLine fu s a0 a1) := by
  refine z_D_of (lv := [vR a0, vI a1]) hst z_mX12_isLine rfl ?_ (Nat.le_of_ble_eq_true rfl) rfl
  unfold fX12_isLine
  refine G_aload_n (x := a0) (pc := 0) dX12_isLine_0 rfl ?_
  refine G_callVN (as := []) (st := []) (c := 12) (bc2 := 0) (bs2 := 0) (pc := 1) dX12_isLine_1 z_mX12_laysAll z_vX12_laysAll z_wX12_371 (gX12_laysAll hst fu s a0) rfl rfl (by decide) rfl rfl ⟨by decide, by decide, by decide, by decide, Nat.le_of_ble_eq_true rfl⟩ rfl (fun s1 => ?_)
  refine G_iload_n (x := a1) (pc := 4) dX12_isLine_4 rfl ?_
  refine G_iconst (pc := 5) dX12_isLine_5 ?_
  refine G_aload_n (x := a0) (pc := 6) dX12_isLine_6 rfl ?_
  refine G_getI (j := 44) (pc := 7) dX12_isLine_7 rfl z_CLX12 (by decide) z_wX12_365 (by decide) (fun x2 => ?_)
  refine G_iconst (pc := 10) dX12_isLine_10 ?_
  refine G_isub (pc := 11) dX12_isLine_11 (fun x3 => ?_)
  refine G_callSI (as := [vI a1, vI 0, vI x3]) (st := []) (bc2 := 0) (bs2 := 0) (pc := 12) dX12_isLine_12 z_mX12_in z_sX12_in z_wX12_245 (gX12_in hst fu s1 a1 0 x3) rfl rfl ⟨by decide, by decide, by decide, by decide, Nat.le_of_ble_eq_true rfl⟩ rfl (fun x5 s4 => ?_)
  exact G_zret (pc := 15) dX12_isLine_15
def fX12_addsThing (fu : Nat) (s : z_M) (a0 : Int) (a1 : Int) (a2 : Int) : z_O := if z_ob a0 12 then z_let (z_gr a0 61) (fun x1 => if z_ob a0 12 then z_let (s a0 60) (fun x2 => if z_ix x1 103 x2 then z_let (z_gr x1 x2) (fun x3 => if z_ix x3 100 0 then z_let (z_up s x3 0 a1) (fun s4 => if z_ob a0 12 then z_let (z_gr a0 61) (fun x5 => if z_ob a0 12 then z_let (s4 a0 60) (fun x6 => if z_ix x5 103 x6 then z_let (z_gr x5 x6) (fun x7 => if z_ix x7 100 1 then z_let (z_up s4 x7 1 a2) (fun s8 => if z_ob a0 12 then z_let (s8 a0 60) (fun x9 => z_let (z_w (x9 + 1)) (fun x10 => if z_ob a0 12 then z_let (z_up s8 a0 60 x10) (fun s11 => some (vN, s11)) else none)) else none) else none) else none) else none) else none) else none) else none) else none) else none
theorem gX12_addsThing {l : Launch} {K : z_K} (hst : l.stackTraces = false) (fu : Nat) (s : z_M) (a0 : Int) (a1 : Int) (a2 : Int) : z_D l K mX12_addsThing 0 0 0 0 [vR a0, vI a1, vI a2] s (fX12_addsThing fu s a0 a1 a2) := by
  refine z_D_of (lv := [vR a0, vI a1, vI a2]) hst z_mX12_addsThing rfl ?_ (Nat.le_of_ble_eq_true rfl) rfl
  unfold fX12_addsThing
  refine G_aload_n (x := a0) (pc := 0) dX12_addsThing_0 rfl ?_
  refine G_getR (j := 61) (pc := 1) dX12_addsThing_1 rfl z_CLX12 (by decide) z_wX12_152 (by decide) (fun x1 => ?_)
  refine G_aload_n (x := a0) (pc := 4) dX12_addsThing_4 rfl ?_
  refine G_getI (j := 60) (pc := 5) dX12_addsThing_5 rfl z_CLX12 (by decide) z_wX12_402 (by decide) (fun x2 => ?_)
  refine G_aald103 (pc := 8) dX12_addsThing_8 (fun x3 => ?_)
  refine G_iconst (pc := 9) dX12_addsThing_9 ?_
  refine G_iload_n (x := a1) (pc := 10) dX12_addsThing_10 rfl ?_
  refine G_iast (pc := 11) dX12_addsThing_11 (fun s4 => ?_)
  refine G_aload_n (x := a0) (pc := 12) dX12_addsThing_12 rfl ?_
  refine G_getR (j := 61) (pc := 13) dX12_addsThing_13 rfl z_CLX12 (by decide) z_wX12_152 (by decide) (fun x5 => ?_)
  refine G_aload_n (x := a0) (pc := 16) dX12_addsThing_16 rfl ?_
  refine G_getI (j := 60) (pc := 17) dX12_addsThing_17 rfl z_CLX12 (by decide) z_wX12_402 (by decide) (fun x6 => ?_)
  refine G_aald103 (pc := 20) dX12_addsThing_20 (fun x7 => ?_)
  refine G_iconst (pc := 21) dX12_addsThing_21 ?_
  refine G_iload_n (x := a2) (pc := 22) dX12_addsThing_22 rfl ?_
  refine G_iast (pc := 23) dX12_addsThing_23 (fun s8 => ?_)
  refine G_aload_n (x := a0) (pc := 24) dX12_addsThing_24 rfl ?_
  refine G_dupR (pc := 25) dX12_addsThing_25 ?_
  refine G_getI (j := 60) (pc := 26) dX12_addsThing_26 rfl z_CLX12 (by decide) z_wX12_402 (by decide) (fun x9 => ?_)
  refine G_iconst (pc := 29) dX12_addsThing_29 ?_
  refine G_iadd (pc := 30) dX12_addsThing_30 (fun x10 => ?_)
  refine G_putI (j := 60) (pc := 31) dX12_addsThing_31 rfl z_CLX12 (by decide) z_wX12_402 rfl (by decide) (by decide) (fun s11 => ?_)
  exact G_vret (pc := 34) dX12_addsThing_34
def fX12_laysLetters_L33 (fu : Nat) (a0 : Int) (a1 : Int) (a2 : Int) (a3 : Int) : Nat → z_M → Int → (z_M → z_O) → z_O
  | 0, _, _, _ => none
  | F + 1, s, a4, k => if z_ob a0 12 then z_bI (fX12_lettersIn fu s a0 a3 a2) (fun x8 s7 => if (x8 : Int) ≤ a4 then (k s7) else (if z_ob a0 12 then z_bI (fX12_letterPlace fu s7 a0 a3 a2 a4) (fun x10 s9 => if z_ob a0 12 then z_bN (fX12_addsThing fu s9 a0 x10 6) (fun s11 => z_let (z_w (a4 + 1)) (fun x12 => fX12_laysLetters_L33 fu a0 a1 a2 a3 F s11 x12 k)) else none) else none)) else none
theorem gX12_laysLetters_L33 {l : Launch} {K : z_K} (hst : l.stackTraces = false) (fu : Nat) (a0 : Int) (a1 : Int) (a2 : Int) (a3 : Int) (k : z_M → z_O) (hk : ∀ (s : z_M), G l K mX12_laysLetters 3 72 0 0 64 [vR a0, vI a1, vI a2, vI a3, vU] [] s (k s)) : ∀ (F : Nat) (s : z_M) (a4 : Int), G l K mX12_laysLetters 3 72 0 0 33 [vR a0, vI a1, vI a2, vI a3, vI a4] [] s (fX12_laysLetters_L33 fu a0 a1 a2 a3 F s a4 k) := by
  intro F
  induction F with
  | zero => exact fun s a4 h => absurd rfl h
  | succ F ih =>
    intro s a4
    rw [fX12_laysLetters_L33]
    refine G_iload (x := a4) (pc := 33) dX12_laysLetters_33 rfl ?_
    refine G_aload_n (x := a0) (pc := 35) dX12_laysLetters_35 rfl ?_
    refine G_iload_n (x := a3) (pc := 36) dX12_laysLetters_36 rfl ?_
    refine G_iload_n (x := a2) (pc := 37) dX12_laysLetters_37 rfl ?_
    refine G_callVI (as := [vI a3, vI a2]) (st := [vI a4]) (c := 12) (bc2 := 0) (bs2 := 0) (pc := 38) dX12_laysLetters_38 z_mX12_lettersIn z_vX12_lettersIn z_wX12_393 (gX12_lettersIn hst fu s a0 a3 a2) rfl rfl (by decide) rfl rfl ⟨by decide, by decide, by decide, by decide, Nat.le_of_ble_eq_true rfl⟩ rfl (fun x8 s7 => ?_)
    refine G_icmp_ge (tgt := 64) (pc := 41) dX12_laysLetters_41 ?_ ?_
    · refine G_fg (lv2 := [vR a0, vI a1, vI a2, vI a3, vU]) ⟨Or.inr rfl, Or.inr rfl, Or.inr rfl, Or.inr rfl, Or.inl rfl, trivial⟩ ?_
      exact hk s7
    · refine G_aload_n (x := a0) (pc := 44) dX12_laysLetters_44 rfl ?_
      refine G_aload_n (x := a0) (pc := 45) dX12_laysLetters_45 rfl ?_
      refine G_iload_n (x := a3) (pc := 46) dX12_laysLetters_46 rfl ?_
      refine G_iload_n (x := a2) (pc := 47) dX12_laysLetters_47 rfl ?_
      refine G_iload (x := a4) (pc := 48) dX12_laysLetters_48 rfl ?_
      refine G_callVI (as := [vI a3, vI a2, vI a4]) (st := [vR a0]) (c := 12) (bc2 := 0) (bs2 := 0) (pc := 50) dX12_laysLetters_50 z_mX12_letterPlace z_vX12_letterPlace z_wX12_399 (gX12_letterPlace hst fu s7 a0 a3 a2 a4) rfl rfl (by decide) rfl rfl ⟨by decide, by decide, by decide, by decide, Nat.le_of_ble_eq_true rfl⟩ rfl (fun x10 s9 => ?_)
      refine G_bipush (pc := 53) dX12_laysLetters_53 ?_
      refine G_callVN (as := [vI x10, vI 6]) (st := []) (c := 12) (bc2 := 0) (bs2 := 0) (pc := 55) dX12_laysLetters_55 z_mX12_addsThing z_vX12_addsThing z_wX12_405 (gX12_addsThing hst fu s9 a0 x10 6) rfl rfl (by decide) rfl rfl ⟨by decide, by decide, by decide, by decide, Nat.le_of_ble_eq_true rfl⟩ rfl (fun s11 => ?_)
      refine G_iinc (x := a4) (g := fun x12 => [vR a0, vI a1, vI a2, vI a3, vI x12]) (pc := 58) dX12_laysLetters_58 rfl (fun _ => rfl) (fun x12 => ?_)
      refine G_goto (tgt := 33) (pc := 61) dX12_laysLetters_61 ?_
      exact ih s11 x12
def fX12_laysLetters_J64 (fu : Nat) (s : z_M) (a0 : Int) (a1 : Int) (a2 : Int) (a3 : Int) (r : z_M → Int → z_O) (k : z_M → z_O) : z_O := z_let (z_w (a3 + 1)) (fun x14 => r s x14)
theorem gX12_laysLetters_J64 {l : Launch} {K : z_K} (hst : l.stackTraces = false) (fu : Nat) (s : z_M) (a0 : Int) (a1 : Int) (a2 : Int) (a3 : Int) (r : z_M → Int → z_O) (k : z_M → z_O) (hr : ∀ (s : z_M) (a3 : Int), G l K mX12_laysLetters 3 72 0 0 2 [vR a0, vI a1, vI a2, vI a3, vU] [] s (r s a3)) (hk : ∀ (s : z_M), G l K mX12_laysLetters 3 72 0 0 70 [vR a0, vU, vU, vU, vU] [] s (k s)) : G l K mX12_laysLetters 3 72 0 0 64 [vR a0, vI a1, vI a2, vI a3, vU] [] s (fX12_laysLetters_J64 fu s a0 a1 a2 a3 r k) := by
  unfold fX12_laysLetters_J64
  refine G_iinc (x := a3) (g := fun x14 => [vR a0, vI a1, vI a2, vI x14, vU]) (pc := 64) dX12_laysLetters_64 rfl (fun _ => rfl) (fun x14 => ?_)
  refine G_goto (tgt := 2) (pc := 67) dX12_laysLetters_67 ?_
  exact hr s x14
def fX12_laysLetters_L2 (fu : Nat) (a0 : Int) (a1 : Int) (a2 : Int) : Nat → z_M → Int → (z_M → z_O) → z_O
  | 0, _, _, _ => none
  | F + 1, s, a3, k => if z_ob a0 12 then z_let (s a0 58) (fun x1 => if (x1 : Int) ≤ a3 then (k s) else (if z_ob a0 12 then z_let (z_gr a0 48) (fun x2 => if z_ob a0 12 then z_let (z_gr a0 59) (fun x3 => if z_ix x3 103 a3 then z_let (z_gr x3 a3) (fun x4 => if z_ix x4 100 0 then z_let (s x4 0) (fun x5 => if z_ix x2 100 x5 then z_let (s x2 x5) (fun x6 => if (x6 : Int) = a1 then (fX12_laysLetters_L33 fu a0 a1 a2 a3 fu s 0 (fun s13 => fX12_laysLetters_J64 fu s13 a0 a1 a2 a3 (fun w v3 => fX12_laysLetters_L2 fu a0 a1 a2 F w v3 k) k)) else (fX12_laysLetters_J64 fu s a0 a1 a2 a3 (fun w v3 => fX12_laysLetters_L2 fu a0 a1 a2 F w v3 k) k)) else none) else none) else none) else none) else none)) else none
theorem gX12_laysLetters_L2 {l : Launch} {K : z_K} (hst : l.stackTraces = false) (fu : Nat) (a0 : Int) (a1 : Int) (a2 : Int) (k : z_M → z_O) (hk : ∀ (s : z_M), G l K mX12_laysLetters 3 72 0 0 70 [vR a0, vU, vU, vU, vU] [] s (k s)) : ∀ (F : Nat) (s : z_M) (a3 : Int), G l K mX12_laysLetters 3 72 0 0 2 [vR a0, vI a1, vI a2, vI a3, vU] [] s (fX12_laysLetters_L2 fu a0 a1 a2 F s a3 k) := by
  intro F
  induction F with
  | zero => exact fun s a3 h => absurd rfl h
  | succ F ih =>
    intro s a3
    rw [fX12_laysLetters_L2]
    refine G_iload_n (x := a3) (pc := 2) dX12_laysLetters_2 rfl ?_
    refine G_aload_n (x := a0) (pc := 3) dX12_laysLetters_3 rfl ?_
    refine G_getI (j := 58) (pc := 4) dX12_laysLetters_4 rfl z_CLX12 (by decide) z_wX12_359 (by decide) (fun x1 => ?_)
    refine G_icmp_ge (tgt := 70) (pc := 7) dX12_laysLetters_7 ?_ ?_
    · refine G_fg (lv2 := [vR a0, vU, vU, vU, vU]) ⟨Or.inr rfl, Or.inl rfl, Or.inl rfl, Or.inl rfl, Or.inl rfl, trivial⟩ ?_
      exact hk s
    · refine G_aload_n (x := a0) (pc := 10) dX12_laysLetters_10 rfl ?_
      refine G_getR (j := 48) (pc := 11) dX12_laysLetters_11 rfl z_CLX12 (by decide) z_wX12_119 (by decide) (fun x2 => ?_)
      refine G_aload_n (x := a0) (pc := 14) dX12_laysLetters_14 rfl ?_
      refine G_getR (j := 59) (pc := 15) dX12_laysLetters_15 rfl z_CLX12 (by decide) z_wX12_149 (by decide) (fun x3 => ?_)
      refine G_iload_n (x := a3) (pc := 18) dX12_laysLetters_18 rfl ?_
      refine G_aald103 (pc := 19) dX12_laysLetters_19 (fun x4 => ?_)
      refine G_iconst (pc := 20) dX12_laysLetters_20 ?_
      refine G_iald (pc := 21) dX12_laysLetters_21 (fun x5 => ?_)
      refine G_iald (pc := 22) dX12_laysLetters_22 (fun x6 => ?_)
      refine G_iload_n (x := a1) (pc := 23) dX12_laysLetters_23 rfl ?_
      refine G_icmp_eq (tgt := 30) (pc := 24) dX12_laysLetters_24 ?_ ?_
      · refine G_iconst (pc := 30) dX12_laysLetters_30 ?_
        refine G_istore (lv' := [vR a0, vI a1, vI a2, vI a3, vI 0]) (pc := 31) dX12_laysLetters_31 rfl ?_
        refine gX12_laysLetters_L33 hst fu a0 a1 a2 a3 _ (fun s13 => ?_) fu s 0
        exact gX12_laysLetters_J64 hst fu s13 a0 a1 a2 a3 _ _ (fun w v3 => ih w v3) hk
      · refine G_goto (tgt := 64) (pc := 27) dX12_laysLetters_27 ?_
        exact gX12_laysLetters_J64 hst fu s a0 a1 a2 a3 _ _ (fun w v3 => ih w v3) hk
def fX12_laysLetters (fu : Nat) (s : z_M) (a0 : Int) (a1 : Int) (a2 : Int) : z_O := fX12_laysLetters_L2 fu a0 a1 a2 fu s 0 (fun s15 => if z_ob a0 12 then z_let (s15 a0 60) (fun x16 => some (vI x16, s15)) else none)
theorem gX12_laysLetters {l : Launch} {K : z_K} (hst : l.stackTraces = false) (fu : Nat) (s : z_M) (a0 : Int) (a1 : Int) (a2 : Int) : z_D l K mX12_laysLetters 3 72 0 0 [vR a0, vI a1, vI a2] s (fX12_laysLetters fu s a0 a1 a2) := by
  refine z_D_of (lv := [vR a0, vI a1, vI a2, vU, vU]) hst z_mX12_laysLetters rfl ?_ (Nat.le_of_ble_eq_true rfl) rfl
  unfold fX12_laysLetters
  refine G_iconst (pc := 0) dX12_laysLetters_0 ?_
  refine G_istore_n (lv' := [vR a0, vI a1, vI a2, vI 0, vU]) (pc := 1) dX12_laysLetters_1 rfl ?_
  refine gX12_laysLetters_L2 hst fu a0 a1 a2 _ (fun s15 => ?_) fu s 0
  refine G_aload_n (x := a0) (pc := 70) dX12_laysLetters_70 rfl ?_
  refine G_getI (j := 60) (pc := 71) dX12_laysLetters_71 rfl z_CLX12 (by decide) z_wX12_402 (by decide) (fun x16 => ?_)
  exact G_iret (pc := 74) dX12_laysLetters_74
def fX12_laysSide_J80 (fu : Nat) (s : z_M) (a0 : Int) (a1 : Int) (a2 : Int) (a3 : Int) (a4 : Int) (r : z_M → Int → z_O) (k : z_M → z_O) : z_O := z_let (z_w (a4 + 1)) (fun x19 => r s x19)
theorem gX12_laysSide_J80 {l : Launch} {K : z_K} (hst : l.stackTraces = false) (fu : Nat) (s : z_M) (a0 : Int) (a1 : Int) (a2 : Int) (a3 : Int) (a4 : Int) (r : z_M → Int → z_O) (k : z_M → z_O) (hr : ∀ (s : z_M) (a4 : Int), G l K mX12_laysSide 4 96 0 0 34 [vR a0, vI a1, vI a2, vI a3, vI a4] [] s (r s a4)) (hk : ∀ (s : z_M), G l K mX12_laysSide 4 96 0 0 86 [vR a0, vI a1, vI a2, vI a3, vU] [] s (k s)) : G l K mX12_laysSide 4 96 0 0 80 [vR a0, vI a1, vI a2, vI a3, vI a4] [] s (fX12_laysSide_J80 fu s a0 a1 a2 a3 a4 r k) := by
  unfold fX12_laysSide_J80
  refine G_iinc (x := a4) (g := fun x19 => [vR a0, vI a1, vI a2, vI a3, vI x19]) (pc := 80) dX12_laysSide_80 rfl (fun _ => rfl) (fun x19 => ?_)
  refine G_goto (tgt := 34) (pc := 83) dX12_laysSide_83 ?_
  exact hr s x19
def fX12_laysSide_L34 (fu : Nat) (a0 : Int) (a1 : Int) (a2 : Int) (a3 : Int) : Nat → z_M → Int → (z_M → z_O) → z_O
  | 0, _, _, _ => none
  | F + 1, s, a4, k => if z_ob a0 12 then z_let (z_gr a0 22) (fun x10 => if z_ix x10 100 a3 then z_let (s x10 a3) (fun x11 => if z_ob a0 12 then z_let (z_gr a0 23) (fun x12 => if z_ix x12 100 a3 then z_let (s x12 a3) (fun x13 => z_let (z_w (x11 + x13)) (fun x14 => if (x14 : Int) ≤ a4 then (k s) else (if z_ob a0 12 then z_bI (fX12_marksOf fu s a0 a4) (fun x16 s15 => z_let (z_shr x16 a2) (fun x17 => z_let (z_and x17 1) (fun x18 => if (x18 : Int) ≠ 1 then (fX12_laysSide_J80 fu s15 a0 a1 a2 a3 a4 (fun w v4 => fX12_laysSide_L34 fu a0 a1 a2 a3 F w v4 k) k) else (if z_ob a0 12 then z_let (z_gr a0 50) (fun x20 => if z_ix x20 100 a4 then z_let (s15 x20 a4) (fun x21 => z_let (z_w (x21 + 4)) (fun x22 => if z_ob a0 12 then z_bN (fX12_addsThing fu s15 a0 x22 4) (fun s23 => fX12_laysSide_J80 fu s23 a0 a1 a2 a3 a4 (fun w v4 => fX12_laysSide_L34 fu a0 a1 a2 a3 F w v4 k) k) else none)) else none) else none)))) else none))) else none) else none) else none) else none
theorem gX12_laysSide_L34 {l : Launch} {K : z_K} (hst : l.stackTraces = false) (fu : Nat) (a0 : Int) (a1 : Int) (a2 : Int) (a3 : Int) (k : z_M → z_O) (hk : ∀ (s : z_M), G l K mX12_laysSide 4 96 0 0 86 [vR a0, vI a1, vI a2, vI a3, vU] [] s (k s)) : ∀ (F : Nat) (s : z_M) (a4 : Int), G l K mX12_laysSide 4 96 0 0 34 [vR a0, vI a1, vI a2, vI a3, vI a4] [] s (fX12_laysSide_L34 fu a0 a1 a2 a3 F s a4 k) := by
  intro F
  induction F with
  | zero => exact fun s a4 h => absurd rfl h
  | succ F ih =>
    intro s a4
    rw [fX12_laysSide_L34]
    refine G_iload (x := a4) (pc := 34) dX12_laysSide_34 rfl ?_
    refine G_aload_n (x := a0) (pc := 36) dX12_laysSide_36 rfl ?_
    refine G_getR (j := 22) (pc := 37) dX12_laysSide_37 rfl z_CLX12 (by decide) z_wX12_57 (by decide) (fun x10 => ?_)
    refine G_iload_n (x := a3) (pc := 40) dX12_laysSide_40 rfl ?_
    refine G_iald (pc := 41) dX12_laysSide_41 (fun x11 => ?_)
    refine G_aload_n (x := a0) (pc := 42) dX12_laysSide_42 rfl ?_
    refine G_getR (j := 23) (pc := 43) dX12_laysSide_43 rfl z_CLX12 (by decide) z_wX12_60 (by decide) (fun x12 => ?_)
    refine G_iload_n (x := a3) (pc := 46) dX12_laysSide_46 rfl ?_
    refine G_iald (pc := 47) dX12_laysSide_47 (fun x13 => ?_)
    refine G_iadd (pc := 48) dX12_laysSide_48 (fun x14 => ?_)
    refine G_icmp_ge (tgt := 86) (pc := 49) dX12_laysSide_49 ?_ ?_
    · refine G_fg (lv2 := [vR a0, vI a1, vI a2, vI a3, vU]) ⟨Or.inr rfl, Or.inr rfl, Or.inr rfl, Or.inr rfl, Or.inl rfl, trivial⟩ ?_
      exact hk s
    · refine G_aload_n (x := a0) (pc := 52) dX12_laysSide_52 rfl ?_
      refine G_iload (x := a4) (pc := 53) dX12_laysSide_53 rfl ?_
      refine G_callVI (as := [vI a4]) (st := []) (c := 12) (bc2 := 0) (bs2 := 0) (pc := 55) dX12_laysSide_55 z_mX12_marksOf z_vX12_marksOf z_wX12_390 (gX12_marksOf hst fu s a0 a4) rfl rfl (by decide) rfl rfl ⟨by decide, by decide, by decide, by decide, Nat.le_of_ble_eq_true rfl⟩ rfl (fun x16 s15 => ?_)
      refine G_iload_n (x := a2) (pc := 58) dX12_laysSide_58 rfl ?_
      refine G_ishr (pc := 59) dX12_laysSide_59 (fun x17 => ?_)
      refine G_iconst (pc := 60) dX12_laysSide_60 ?_
      refine G_iand (pc := 61) dX12_laysSide_61 (fun x18 => ?_)
      refine G_iconst (pc := 62) dX12_laysSide_62 ?_
      refine G_icmp_ne (tgt := 80) (pc := 63) dX12_laysSide_63 ?_ ?_
      · exact gX12_laysSide_J80 hst fu s15 a0 a1 a2 a3 a4 _ _ (fun w v4 => ih w v4) hk
      · refine G_aload_n (x := a0) (pc := 66) dX12_laysSide_66 rfl ?_
        refine G_aload_n (x := a0) (pc := 67) dX12_laysSide_67 rfl ?_
        refine G_getR (j := 50) (pc := 68) dX12_laysSide_68 rfl z_CLX12 (by decide) z_wX12_125 (by decide) (fun x20 => ?_)
        refine G_iload (x := a4) (pc := 71) dX12_laysSide_71 rfl ?_
        refine G_iald (pc := 73) dX12_laysSide_73 (fun x21 => ?_)
        refine G_iconst (pc := 74) dX12_laysSide_74 ?_
        refine G_iadd (pc := 75) dX12_laysSide_75 (fun x22 => ?_)
        refine G_iconst (pc := 76) dX12_laysSide_76 ?_
        refine G_callVN (as := [vI x22, vI 4]) (st := []) (c := 12) (bc2 := 0) (bs2 := 0) (pc := 77) dX12_laysSide_77 z_mX12_addsThing z_vX12_addsThing z_wX12_405 (gX12_addsThing hst fu s15 a0 x22 4) rfl rfl (by decide) rfl rfl ⟨by decide, by decide, by decide, by decide, Nat.le_of_ble_eq_true rfl⟩ rfl (fun s23 => ?_)
        exact gX12_laysSide_J80 hst fu s23 a0 a1 a2 a3 a4 _ _ (fun w v4 => ih w v4) hk
def fX12_laysSide_L14 (fu : Nat) (a0 : Int) (a1 : Int) (a2 : Int) : Nat → z_M → Int → (z_M → z_O) → z_O
  | 0, _, _, _ => none
  | F + 1, s, a3, k => if z_ob a0 12 then z_let (z_gr a0 45) (fun x5 => z_let (z_w (a1 + 1)) (fun x6 => if z_ix x5 100 x6 then z_let (s x5 x6) (fun x7 => if (x7 : Int) ≤ a3 then (k s) else (if z_ob a0 12 then z_let (z_gr a0 22) (fun x8 => if z_ix x8 100 a3 then z_let (s x8 a3) (fun x9 => fX12_laysSide_L34 fu a0 a1 a2 a3 fu s x9 (fun s24 => z_let (z_w (a3 + 1)) (fun x25 => fX12_laysSide_L14 fu a0 a1 a2 F s24 x25 k))) else none) else none)) else none)) else none
theorem gX12_laysSide_L14 {l : Launch} {K : z_K} (hst : l.stackTraces = false) (fu : Nat) (a0 : Int) (a1 : Int) (a2 : Int) (k : z_M → z_O) (hk : ∀ (s : z_M), G l K mX12_laysSide 4 96 0 0 92 [vR a0, vU, vU, vU, vU] [] s (k s)) : ∀ (F : Nat) (s : z_M) (a3 : Int), G l K mX12_laysSide 4 96 0 0 14 [vR a0, vI a1, vI a2, vI a3, vU] [] s (fX12_laysSide_L14 fu a0 a1 a2 F s a3 k) := by
  intro F
  induction F with
  | zero => exact fun s a3 h => absurd rfl h
  | succ F ih =>
    intro s a3
    rw [fX12_laysSide_L14]
    refine G_iload_n (x := a3) (pc := 14) dX12_laysSide_14 rfl ?_
    refine G_aload_n (x := a0) (pc := 15) dX12_laysSide_15 rfl ?_
    refine G_getR (j := 45) (pc := 16) dX12_laysSide_16 rfl z_CLX12 (by decide) z_wX12_109 (by decide) (fun x5 => ?_)
    refine G_iload_n (x := a1) (pc := 19) dX12_laysSide_19 rfl ?_
    refine G_iconst (pc := 20) dX12_laysSide_20 ?_
    refine G_iadd (pc := 21) dX12_laysSide_21 (fun x6 => ?_)
    refine G_iald (pc := 22) dX12_laysSide_22 (fun x7 => ?_)
    refine G_icmp_ge (tgt := 92) (pc := 23) dX12_laysSide_23 ?_ ?_
    · refine G_fg (lv2 := [vR a0, vU, vU, vU, vU]) ⟨Or.inr rfl, Or.inl rfl, Or.inl rfl, Or.inl rfl, Or.inl rfl, trivial⟩ ?_
      exact hk s
    · refine G_aload_n (x := a0) (pc := 26) dX12_laysSide_26 rfl ?_
      refine G_getR (j := 22) (pc := 27) dX12_laysSide_27 rfl z_CLX12 (by decide) z_wX12_57 (by decide) (fun x8 => ?_)
      refine G_iload_n (x := a3) (pc := 30) dX12_laysSide_30 rfl ?_
      refine G_iald (pc := 31) dX12_laysSide_31 (fun x9 => ?_)
      refine G_istore (lv' := [vR a0, vI a1, vI a2, vI a3, vI x9]) (pc := 32) dX12_laysSide_32 rfl ?_
      refine gX12_laysSide_L34 hst fu a0 a1 a2 a3 _ (fun s24 => ?_) fu s x9
      refine G_iinc (x := a3) (g := fun x25 => [vR a0, vI a1, vI a2, vI x25, vU]) (pc := 86) dX12_laysSide_86 rfl (fun _ => rfl) (fun x25 => ?_)
      refine G_goto (tgt := 14) (pc := 89) dX12_laysSide_89 ?_
      exact ih s24 x25
def fX12_laysSide (fu : Nat) (s : z_M) (a0 : Int) (a1 : Int) (a2 : Int) : z_O := if z_ob a0 12 then z_bI (fX12_laysLetters fu s a0 a1 a2) (fun x2 s1 => if z_ob a0 12 then z_let (z_gr a0 45) (fun x3 => if z_ix x3 100 a1 then z_let (s1 x3 a1) (fun x4 => fX12_laysSide_L14 fu a0 a1 a2 fu s1 x4 (fun s26 => if z_ob a0 12 then z_let (s26 a0 60) (fun x27 => some (vI x27, s26)) else none)) else none) else none) else none
theorem gX12_laysSide {l : Launch} {K : z_K} (hst : l.stackTraces = false) (fu : Nat) (s : z_M) (a0 : Int) (a1 : Int) (a2 : Int) : z_D l K mX12_laysSide 4 96 0 0 [vR a0, vI a1, vI a2] s (fX12_laysSide fu s a0 a1 a2) := by
  refine z_D_of (lv := [vR a0, vI a1, vI a2, vU, vU]) hst z_mX12_laysSide rfl ?_ (Nat.le_of_ble_eq_true rfl) rfl
  unfold fX12_laysSide
  refine G_aload_n (x := a0) (pc := 0) dX12_laysSide_0 rfl ?_
  refine G_iload_n (x := a1) (pc := 1) dX12_laysSide_1 rfl ?_
  refine G_iload_n (x := a2) (pc := 2) dX12_laysSide_2 rfl ?_
  refine G_callVI (as := [vI a1, vI a2]) (st := []) (c := 12) (bc2 := 0) (bs2 := 0) (pc := 3) dX12_laysSide_3 z_mX12_laysLetters z_vX12_laysLetters z_wX12_408 (gX12_laysLetters hst fu s a0 a1 a2) rfl rfl (by decide) rfl rfl ⟨by decide, by decide, by decide, by decide, Nat.le_of_ble_eq_true rfl⟩ rfl (fun x2 s1 => ?_)
  refine G_popI (pc := 6) dX12_laysSide_6 ?_
  refine G_aload_n (x := a0) (pc := 7) dX12_laysSide_7 rfl ?_
  refine G_getR (j := 45) (pc := 8) dX12_laysSide_8 rfl z_CLX12 (by decide) z_wX12_109 (by decide) (fun x3 => ?_)
  refine G_iload_n (x := a1) (pc := 11) dX12_laysSide_11 rfl ?_
  refine G_iald (pc := 12) dX12_laysSide_12 (fun x4 => ?_)
  refine G_istore_n (lv' := [vR a0, vI a1, vI a2, vI x4, vU]) (pc := 13) dX12_laysSide_13 rfl ?_
  refine gX12_laysSide_L14 hst fu a0 a1 a2 _ (fun s26 => ?_) fu s1 x4
  refine G_aload_n (x := a0) (pc := 92) dX12_laysSide_92 rfl ?_
  refine G_getI (j := 60) (pc := 93) dX12_laysSide_93 rfl z_CLX12 (by decide) z_wX12_402 (by decide) (fun x27 => ?_)
  exact G_iret (pc := 96) dX12_laysSide_96
def fX12_side_J59 (fu : Nat) (s : z_M) : z_O := some (vI 0, s)
theorem gX12_side_J59 {l : Launch} {K : z_K} (hst : l.stackTraces = false) (fu : Nat) (s : z_M) : G l K mX12_side 12 271 0 0 59 [vU, vU, vU, vU, vU] [] s (fX12_side_J59 fu s) := by
  unfold fX12_side_J59
  refine G_iconst (pc := 59) dX12_side_59 ?_
  exact G_iret (pc := 60) dX12_side_60
def fX12_side_J94 (fu : Nat) (s : z_M) (t0 : Int) : z_O := some (vI t0, s)
theorem gX12_side_J94 {l : Launch} {K : z_K} (hst : l.stackTraces = false) (fu : Nat) (s : z_M) (t0 : Int) : G l K mX12_side 12 271 0 0 94 [vU, vU, vU, vU, vU] [vI t0] s (fX12_side_J94 fu s t0) := by
  unfold fX12_side_J94
  exact G_iret (pc := 94) dX12_side_94
def fX12_side_J51 (fu : Nat) (s : z_M) (a0 : Int) (a1 : Int) (a2 : Int) (a3 : Int) (t0 : Int) (t1 : Int) : z_O := if z_ob t0 12 then z_bI (fX12_bad fu s t0 t1 2 1) (fun x9 s8 => if (x9 : Int) = 0 then (if z_ob a0 12 then z_let (z_up s8 a0 60 0) (fun s10 => if z_ob a0 12 then z_bI (fX12_laysLetters fu s10 a0 a1 a2) (fun x12 s11 => if (a3 : Int) ≠ 0 then (if z_ob a0 12 then z_bI (fX12_laysSide fu s11 a0 a1 a2) (fun x14 s13 => z_let (z_w (2 * x12)) (fun x15 => z_let (z_w (x14 - x15)) (fun x16 => fX12_side_J94 fu s13 x16))) else none) else (fX12_side_J94 fu s11 x12)) else none) else none) else (fX12_side_J59 fu s8)) else none
theorem gX12_side_J51 {l : Launch} {K : z_K} (hst : l.stackTraces = false) (fu : Nat) (s : z_M) (a0 : Int) (a1 : Int) (a2 : Int) (a3 : Int) (t0 : Int) (t1 : Int) : G l K mX12_side 12 271 0 0 51 [vR a0, vI a1, vI a2, vI a3, vU] [vI t1, vR t0] s (fX12_side_J51 fu s a0 a1 a2 a3 t0 t1) := by
  unfold fX12_side_J51
  refine G_iconst (pc := 51) dX12_side_51 ?_
  refine G_iconst (pc := 52) dX12_side_52 ?_
  refine G_callVI (as := [vI t1, vI 2, vI 1]) (st := []) (c := 12) (bc2 := 0) (bs2 := 0) (pc := 53) dX12_side_53 z_mX12_bad z_vX12_bad z_wX12_249 (gX12_bad hst fu s t0 t1 2 1) rfl rfl (by decide) rfl rfl ⟨by decide, by decide, by decide, by decide, Nat.le_of_ble_eq_true rfl⟩ rfl (fun x9 s8 => ?_)
  refine G_if_eq (tgt := 61) (pc := 56) dX12_side_56 ?_ ?_
  · refine G_aload_n (x := a0) (pc := 61) dX12_side_61 rfl ?_
    refine G_iconst (pc := 62) dX12_side_62 ?_
    refine G_putI (j := 60) (pc := 63) dX12_side_63 rfl z_CLX12 (by decide) z_wX12_402 rfl (by decide) (by decide) (fun s10 => ?_)
    refine G_aload_n (x := a0) (pc := 66) dX12_side_66 rfl ?_
    refine G_iload_n (x := a1) (pc := 67) dX12_side_67 rfl ?_
    refine G_iload_n (x := a2) (pc := 68) dX12_side_68 rfl ?_
    refine G_callVI (as := [vI a1, vI a2]) (st := []) (c := 12) (bc2 := 0) (bs2 := 0) (pc := 69) dX12_side_69 z_mX12_laysLetters z_vX12_laysLetters z_wX12_408 (gX12_laysLetters hst fu s10 a0 a1 a2) rfl rfl (by decide) rfl rfl ⟨by decide, by decide, by decide, by decide, Nat.le_of_ble_eq_true rfl⟩ rfl (fun x12 s11 => ?_)
    refine G_istore (lv' := [vR a0, vI a1, vI a2, vI a3, vI x12]) (pc := 72) dX12_side_72 rfl ?_
    refine G_iload_n (x := a3) (pc := 74) dX12_side_74 rfl ?_
    refine G_if_ne (tgt := 83) (pc := 75) dX12_side_75 ?_ ?_
    · refine G_aload_n (x := a0) (pc := 83) dX12_side_83 rfl ?_
      refine G_iload_n (x := a1) (pc := 84) dX12_side_84 rfl ?_
      refine G_iload_n (x := a2) (pc := 85) dX12_side_85 rfl ?_
      refine G_callVI (as := [vI a1, vI a2]) (st := []) (c := 12) (bc2 := 0) (bs2 := 0) (pc := 86) dX12_side_86 z_mX12_laysSide z_vX12_laysSide z_wX12_411 (gX12_laysSide hst fu s11 a0 a1 a2) rfl rfl (by decide) rfl rfl ⟨by decide, by decide, by decide, by decide, Nat.le_of_ble_eq_true rfl⟩ rfl (fun x14 s13 => ?_)
      refine G_iconst (pc := 89) dX12_side_89 ?_
      refine G_iload (x := x12) (pc := 90) dX12_side_90 rfl ?_
      refine G_imul (pc := 92) dX12_side_92 (fun x15 => ?_)
      refine G_isub (pc := 93) dX12_side_93 (fun x16 => ?_)
      refine G_fg (lv2 := [vU, vU, vU, vU, vU]) ⟨Or.inl rfl, Or.inl rfl, Or.inl rfl, Or.inl rfl, Or.inl rfl, trivial⟩ ?_
      exact gX12_side_J94 hst fu s13 x16
    · refine G_iload (x := x12) (pc := 78) dX12_side_78 rfl ?_
      refine G_goto (tgt := 94) (pc := 80) dX12_side_80 ?_
      refine G_fg (lv2 := [vU, vU, vU, vU, vU]) ⟨Or.inl rfl, Or.inl rfl, Or.inl rfl, Or.inl rfl, Or.inl rfl, trivial⟩ ?_
      exact gX12_side_J94 hst fu s11 x12
  · refine G_fg (lv2 := [vU, vU, vU, vU, vU]) ⟨Or.inl rfl, Or.inl rfl, Or.inl rfl, Or.inl rfl, Or.inl rfl, trivial⟩ ?_
    exact gX12_side_J59 hst fu s8
def fX12_side_J46 (fu : Nat) (s : z_M) (a0 : Int) (a1 : Int) (a2 : Int) (a3 : Int) (t0 : Int) : z_O := fX12_side_J51 fu s a0 a1 a2 a3 t0 1
theorem gX12_side_J46 {l : Launch} {K : z_K} (hst : l.stackTraces = false) (fu : Nat) (s : z_M) (a0 : Int) (a1 : Int) (a2 : Int) (a3 : Int) (t0 : Int) : G l K mX12_side 12 271 0 0 46 [vR a0, vI a1, vI a2, vI a3, vU] [vR t0] s (fX12_side_J46 fu s a0 a1 a2 a3 t0) := by
  unfold fX12_side_J46
  refine G_iconst (pc := 46) dX12_side_46 ?_
  refine G_goto (tgt := 51) (pc := 47) dX12_side_47 ?_
  exact gX12_side_J51 hst fu s a0 a1 a2 a3 t0 1
def fX12_side_J19 (fu : Nat) (s : z_M) (a0 : Int) (a1 : Int) (a2 : Int) (a3 : Int) (t0 : Int) (t1 : Int) : z_O := if z_ob t0 12 then z_bI (fX12_bad fu s t0 t1 1 0) (fun x5 s4 => if (x5 : Int) ≠ 0 then (fX12_side_J59 fu s4) else (z_bI (fX12_in fu s4 a2 0 1) (fun x7 s6 => if (x7 : Int) = 0 then (fX12_side_J46 fu s6 a0 a1 a2 a3 a0) else (z_bI (fX12_in fu s6 a3 0 1) (fun x18 s17 => if (x18 : Int) ≠ 0 then (fX12_side_J51 fu s17 a0 a1 a2 a3 a0 0) else (fX12_side_J46 fu s17 a0 a1 a2 a3 a0)))))) else none
theorem gX12_side_J19 {l : Launch} {K : z_K} (hst : l.stackTraces = false) (fu : Nat) (s : z_M) (a0 : Int) (a1 : Int) (a2 : Int) (a3 : Int) (t0 : Int) (t1 : Int) : G l K mX12_side 12 271 0 0 19 [vR a0, vI a1, vI a2, vI a3, vU] [vI t1, vR t0] s (fX12_side_J19 fu s a0 a1 a2 a3 t0 t1) := by
  unfold fX12_side_J19
  refine G_iconst (pc := 19) dX12_side_19 ?_
  refine G_iconst (pc := 20) dX12_side_20 ?_
  refine G_callVI (as := [vI t1, vI 1, vI 0]) (st := []) (c := 12) (bc2 := 0) (bs2 := 0) (pc := 21) dX12_side_21 z_mX12_bad z_vX12_bad z_wX12_249 (gX12_bad hst fu s t0 t1 1 0) rfl rfl (by decide) rfl rfl ⟨by decide, by decide, by decide, by decide, Nat.le_of_ble_eq_true rfl⟩ rfl (fun x5 s4 => ?_)
  refine G_if_ne (tgt := 59) (pc := 24) dX12_side_24 ?_ ?_
  · refine G_fg (lv2 := [vU, vU, vU, vU, vU]) ⟨Or.inl rfl, Or.inl rfl, Or.inl rfl, Or.inl rfl, Or.inl rfl, trivial⟩ ?_
    exact gX12_side_J59 hst fu s4
  · refine G_aload_n (x := a0) (pc := 27) dX12_side_27 rfl ?_
    refine G_iload_n (x := a2) (pc := 28) dX12_side_28 rfl ?_
    refine G_iconst (pc := 29) dX12_side_29 ?_
    refine G_iconst (pc := 30) dX12_side_30 ?_
    refine G_callSI (as := [vI a2, vI 0, vI 1]) (st := [vR a0]) (bc2 := 0) (bs2 := 0) (pc := 31) dX12_side_31 z_mX12_in z_sX12_in z_wX12_245 (gX12_in hst fu s4 a2 0 1) rfl rfl ⟨by decide, by decide, by decide, by decide, Nat.le_of_ble_eq_true rfl⟩ rfl (fun x7 s6 => ?_)
    refine G_if_eq (tgt := 46) (pc := 34) dX12_side_34 ?_ ?_
    · exact gX12_side_J46 hst fu s6 a0 a1 a2 a3 a0
    · refine G_iload_n (x := a3) (pc := 37) dX12_side_37 rfl ?_
      refine G_iconst (pc := 38) dX12_side_38 ?_
      refine G_iconst (pc := 39) dX12_side_39 ?_
      refine G_callSI (as := [vI a3, vI 0, vI 1]) (st := [vR a0]) (bc2 := 0) (bs2 := 0) (pc := 40) dX12_side_40 z_mX12_in z_sX12_in z_wX12_245 (gX12_in hst fu s6 a3 0 1) rfl rfl ⟨by decide, by decide, by decide, by decide, Nat.le_of_ble_eq_true rfl⟩ rfl (fun x18 s17 => ?_)
      refine G_if_ne (tgt := 50) (pc := 43) dX12_side_43 ?_ ?_
      · refine G_iconst (pc := 50) dX12_side_50 ?_
        exact gX12_side_J51 hst fu s17 a0 a1 a2 a3 a0 0
      · exact gX12_side_J46 hst fu s17 a0 a1 a2 a3 a0
def fX12_side (fu : Nat) (s : z_M) (a0 : Int) (a1 : Int) (a2 : Int) (a3 : Int) : z_O := if z_ob a0 12 then z_let (z_up s a0 0 0) (fun s1 => if z_ob a0 12 then z_bI (fX12_isLine fu s1 a0 a1) (fun x3 s2 => if (x3 : Int) ≠ 0 then (fX12_side_J19 fu s2 a0 a1 a2 a3 a0 0) else (fX12_side_J19 fu s2 a0 a1 a2 a3 a0 1)) else none) else none
theorem gX12_side {l : Launch} {K : z_K} (hst : l.stackTraces = false) (fu : Nat) (s : z_M) (a0 : Int) (a1 : Int) (a2 : Int) (a3 : Int) : z_D l K mX12_side 12 271 0 0 [vR a0, vI a1, vI a2, vI a3] s (fX12_side fu s a0 a1 a2 a3) := by
  refine z_D_of (lv := [vR a0, vI a1, vI a2, vI a3, vU]) hst z_mX12_side rfl ?_ (Nat.le_of_ble_eq_true rfl) rfl
  unfold fX12_side
  refine G_aload_n (x := a0) (pc := 0) dX12_side_0 rfl ?_
  refine G_iconst (pc := 1) dX12_side_1 ?_
  refine G_putI (j := 0) (pc := 2) dX12_side_2 rfl z_CLX12 (by decide) z_wX12_170 rfl (by decide) (by decide) (fun s1 => ?_)
  refine G_aload_n (x := a0) (pc := 5) dX12_side_5 rfl ?_
  refine G_aload_n (x := a0) (pc := 6) dX12_side_6 rfl ?_
  refine G_iload_n (x := a1) (pc := 7) dX12_side_7 rfl ?_
  refine G_callVI (as := [vI a1]) (st := [vR a0]) (c := 12) (bc2 := 0) (bs2 := 0) (pc := 8) dX12_side_8 z_mX12_isLine z_vX12_isLine z_wX12_414 (gX12_isLine hst fu s1 a0 a1) rfl rfl (by decide) rfl rfl ⟨by decide, by decide, by decide, by decide, Nat.le_of_ble_eq_true rfl⟩ rfl (fun x3 s2 => ?_)
  refine G_if_ne (tgt := 18) (pc := 11) dX12_side_11 ?_ ?_
  · refine G_iconst (pc := 18) dX12_side_18 ?_
    exact gX12_side_J19 hst fu s2 a0 a1 a2 a3 a0 0
  · refine G_iconst (pc := 14) dX12_side_14 ?_
    refine G_goto (tgt := 19) (pc := 15) dX12_side_15 ?_
    exact gX12_side_J19 hst fu s2 a0 a1 a2 a3 a0 1
def fX12_sideOf (fu : Nat) (s : z_M) (a0 : Int) (a1 : Int) (a2 : Int) : z_O := if z_ob a0 12 then z_let (z_up s a0 60 0) (fun s1 => if z_ob a0 12 then z_bI (fX12_laysSide fu s1 a0 a1 a2) (fun x3 s2 => some (vI x3, s2)) else none) else none
theorem gX12_sideOf {l : Launch} {K : z_K} (hst : l.stackTraces = false) (fu : Nat) (s : z_M) (a0 : Int) (a1 : Int) (a2 : Int) : z_D l K mX12_sideOf 5 120 0 0 [vR a0, vI a1, vI a2] s (fX12_sideOf fu s a0 a1 a2) := by
  refine z_D_of (lv := [vR a0, vI a1, vI a2]) hst z_mX12_sideOf rfl ?_ (Nat.le_of_ble_eq_true rfl) rfl
  unfold fX12_sideOf
  refine G_aload_n (x := a0) (pc := 0) dX12_sideOf_0 rfl ?_
  refine G_iconst (pc := 1) dX12_sideOf_1 ?_
  refine G_putI (j := 60) (pc := 2) dX12_sideOf_2 rfl z_CLX12 (by decide) z_wX12_402 rfl (by decide) (by decide) (fun s1 => ?_)
  refine G_aload_n (x := a0) (pc := 5) dX12_sideOf_5 rfl ?_
  refine G_iload_n (x := a1) (pc := 6) dX12_sideOf_6 rfl ?_
  refine G_iload_n (x := a2) (pc := 7) dX12_sideOf_7 rfl ?_
  refine G_callVI (as := [vI a1, vI a2]) (st := []) (c := 12) (bc2 := 0) (bs2 := 0) (pc := 8) dX12_sideOf_8 z_mX12_laysSide z_vX12_laysSide z_wX12_411 (gX12_laysSide hst fu s1 a0 a1 a2) rfl rfl (by decide) rfl rfl ⟨by decide, by decide, by decide, by decide, Nat.le_of_ble_eq_true rfl⟩ rfl (fun x3 s2 => ?_)
  exact G_iret (pc := 11) dX12_sideOf_11
def fX12_clashOf_J145 (fu : Nat) (s : z_M) (a0 : Int) (a2 : Int) (a3 : Int) (a4 : Int) (a5 : Int) (a6 : Int) (r : z_M → Int → Int → z_O) (k : z_M → Int → z_O) : z_O := z_let (z_w (a6 + 1)) (fun x32 => r s a4 x32)
theorem gX12_clashOf_J145 {l : Launch} {K : z_K} (hst : l.stackTraces = false) (fu : Nat) (s : z_M) (a0 : Int) (a2 : Int) (a3 : Int) (a4 : Int) (a5 : Int) (a6 : Int) (r : z_M → Int → Int → z_O) (k : z_M → Int → z_O) (hr : ∀ (s : z_M) (a4 : Int) (a6 : Int), G l K mX12_clashOf 6 142 0 0 47 [vR a0, vU, vI a2, vI a3, vI a4, vI a5, vI a6, vU, vU] [] s (r s a4 a6)) (hk : ∀ (s : z_M) (a4 : Int), G l K mX12_clashOf 6 142 0 0 151 [vR a0, vU, vI a2, vI a3, vI a4, vI a5, vU, vU, vU] [] s (k s a4)) : G l K mX12_clashOf 6 142 0 0 145 [vR a0, vU, vI a2, vI a3, vI a4, vI a5, vI a6, vU, vU] [] s (fX12_clashOf_J145 fu s a0 a2 a3 a4 a5 a6 r k) := by
  unfold fX12_clashOf_J145
  refine G_iinc (x := a6) (g := fun x32 => [vR a0, vU, vI a2, vI a3, vI a4, vI a5, vI x32, vU, vU]) (pc := 145) dX12_clashOf_145 rfl (fun _ => rfl) (fun x32 => ?_)
  refine G_goto (tgt := 47) (pc := 148) dX12_clashOf_148 ?_
  exact hr s a4 x32
def fX12_clashOf_J141 (fu : Nat) (s : z_M) (a0 : Int) (a2 : Int) (a3 : Int) (a5 : Int) (a6 : Int) (a7 : Int) (r : z_M → Int → Int → z_O) (k : z_M → Int → z_O) : z_O := fX12_clashOf_J145 fu s a0 a2 a3 a7 a5 a6 (fun w v4 v6 => r w v4 v6) k
theorem gX12_clashOf_J141 {l : Launch} {K : z_K} (hst : l.stackTraces = false) (fu : Nat) (s : z_M) (a0 : Int) (a2 : Int) (a3 : Int) (a5 : Int) (a6 : Int) (a7 : Int) (r : z_M → Int → Int → z_O) (k : z_M → Int → z_O) (hr : ∀ (s : z_M) (a4 : Int) (a6 : Int), G l K mX12_clashOf 6 142 0 0 47 [vR a0, vU, vI a2, vI a3, vI a4, vI a5, vI a6, vU, vU] [] s (r s a4 a6)) (hk : ∀ (s : z_M) (a4 : Int), G l K mX12_clashOf 6 142 0 0 151 [vR a0, vU, vI a2, vI a3, vI a4, vI a5, vU, vU, vU] [] s (k s a4)) : G l K mX12_clashOf 6 142 0 0 141 [vR a0, vU, vI a2, vI a3, vU, vI a5, vI a6, vI a7, vU] [] s (fX12_clashOf_J141 fu s a0 a2 a3 a5 a6 a7 r k) := by
  unfold fX12_clashOf_J141
  refine G_iload (x := a7) (pc := 141) dX12_clashOf_141 rfl ?_
  refine G_istore (lv' := [vR a0, vU, vI a2, vI a3, vI a7, vI a5, vI a6, vI a7, vU]) (pc := 143) dX12_clashOf_143 rfl ?_
  refine G_fg (lv2 := [vR a0, vU, vI a2, vI a3, vI a7, vI a5, vI a6, vU, vU]) ⟨Or.inr rfl, Or.inl rfl, Or.inr rfl, Or.inr rfl, Or.inr rfl, Or.inr rfl, Or.inr rfl, Or.inl rfl, Or.inl rfl, trivial⟩ ?_
  exact gX12_clashOf_J145 hst fu s a0 a2 a3 a7 a5 a6 _ _ (fun w v4 v6 => hr w v4 v6) hk
def fX12_clashOf_L47 (fu : Nat) (a0 : Int) (a2 : Int) (a3 : Int) (a5 : Int) : Nat → z_M → Int → Int → (z_M → Int → z_O) → z_O
  | 0, _, _, _, _ => none
  | F + 1, s, a4, a6, k => if (a3 : Int) ≤ a6 then (k s a4) else (if z_ob a0 12 then z_let (z_gr a0 61) (fun x8 => if z_ix x8 103 a5 then z_let (z_gr x8 a5) (fun x9 => if z_ix x9 100 0 then z_let (s x9 0) (fun x10 => if z_ob a0 12 then z_let (z_gr a0 61) (fun x11 => if z_ix x11 103 a6 then z_let (z_gr x11 a6) (fun x12 => if z_ix x12 100 0 then z_let (s x12 0) (fun x13 => z_bI (fX12_more fu s x10 x13) (fun x15 s14 => if z_ob a0 12 then z_let (z_gr a0 61) (fun x16 => if z_ix x16 103 a5 then z_let (z_gr x16 a5) (fun x17 => if z_ix x17 100 0 then z_let (s14 x17 0) (fun x18 => if z_ob a0 12 then z_let (z_gr a0 61) (fun x19 => if z_ix x19 103 a5 then z_let (z_gr x19 a5) (fun x20 => if z_ix x20 100 1 then z_let (s14 x20 1) (fun x21 => z_let (z_w (x18 + x21)) (fun x22 => if z_ob a0 12 then z_let (z_gr a0 61) (fun x23 => if z_ix x23 103 a6 then z_let (z_gr x23 a6) (fun x24 => if z_ix x24 100 0 then z_let (s14 x24 0) (fun x25 => if z_ob a0 12 then z_let (z_gr a0 61) (fun x26 => if z_ix x26 103 a6 then z_let (z_gr x26 a6) (fun x27 => if z_ix x27 100 1 then z_let (s14 x27 1) (fun x28 => z_let (z_w (x25 + x28)) (fun x29 => z_bI (fX12_less fu s14 x22 x29) (fun x31 s30 => if (x31 : Int) ≤ x15 then (fX12_clashOf_J145 fu s30 a0 a2 a3 a4 a5 a6 (fun w v4 v6 => fX12_clashOf_L47 fu a0 a2 a3 a5 F w v4 v6 k) k) else (if (a4 : Int) = (-1000) then (fX12_clashOf_J141 fu s30 a0 a2 a3 a5 a6 x15 (fun w v4 v6 => fX12_clashOf_L47 fu a0 a2 a3 a5 F w v4 v6 k) k) else (if (a4 : Int) ≤ x15 then (fX12_clashOf_J145 fu s30 a0 a2 a3 a4 a5 a6 (fun w v4 v6 => fX12_clashOf_L47 fu a0 a2 a3 a5 F w v4 v6 k) k) else (fX12_clashOf_J141 fu s30 a0 a2 a3 a5 a6 x15 (fun w v4 v6 => fX12_clashOf_L47 fu a0 a2 a3 a5 F w v4 v6 k) k)))))) else none) else none) else none) else none) else none) else none)) else none) else none) else none) else none) else none) else none)) else none) else none) else none) else none) else none) else none)
theorem gX12_clashOf_L47 {l : Launch} {K : z_K} (hst : l.stackTraces = false) (fu : Nat) (a0 : Int) (a2 : Int) (a3 : Int) (a5 : Int) (k : z_M → Int → z_O) (hk : ∀ (s : z_M) (a4 : Int), G l K mX12_clashOf 6 142 0 0 151 [vR a0, vU, vI a2, vI a3, vI a4, vI a5, vU, vU, vU] [] s (k s a4)) : ∀ (F : Nat) (s : z_M) (a4 : Int) (a6 : Int), G l K mX12_clashOf 6 142 0 0 47 [vR a0, vU, vI a2, vI a3, vI a4, vI a5, vI a6, vU, vU] [] s (fX12_clashOf_L47 fu a0 a2 a3 a5 F s a4 a6 k) := by
  intro F
  induction F with
  | zero => exact fun s a4 a6 h => absurd rfl h
  | succ F ih =>
    intro s a4 a6
    rw [fX12_clashOf_L47]
    refine G_iload (x := a6) (pc := 47) dX12_clashOf_47 rfl ?_
    refine G_iload_n (x := a3) (pc := 49) dX12_clashOf_49 rfl ?_
    refine G_icmp_ge (tgt := 151) (pc := 50) dX12_clashOf_50 ?_ ?_
    · refine G_fg (lv2 := [vR a0, vU, vI a2, vI a3, vI a4, vI a5, vU, vU, vU]) ⟨Or.inr rfl, Or.inl rfl, Or.inr rfl, Or.inr rfl, Or.inr rfl, Or.inr rfl, Or.inl rfl, Or.inl rfl, Or.inl rfl, trivial⟩ ?_
      exact hk s a4
    · refine G_aload_n (x := a0) (pc := 53) dX12_clashOf_53 rfl ?_
      refine G_getR (j := 61) (pc := 54) dX12_clashOf_54 rfl z_CLX12 (by decide) z_wX12_152 (by decide) (fun x8 => ?_)
      refine G_iload (x := a5) (pc := 57) dX12_clashOf_57 rfl ?_
      refine G_aald103 (pc := 59) dX12_clashOf_59 (fun x9 => ?_)
      refine G_iconst (pc := 60) dX12_clashOf_60 ?_
      refine G_iald (pc := 61) dX12_clashOf_61 (fun x10 => ?_)
      refine G_aload_n (x := a0) (pc := 62) dX12_clashOf_62 rfl ?_
      refine G_getR (j := 61) (pc := 63) dX12_clashOf_63 rfl z_CLX12 (by decide) z_wX12_152 (by decide) (fun x11 => ?_)
      refine G_iload (x := a6) (pc := 66) dX12_clashOf_66 rfl ?_
      refine G_aald103 (pc := 68) dX12_clashOf_68 (fun x12 => ?_)
      refine G_iconst (pc := 69) dX12_clashOf_69 ?_
      refine G_iald (pc := 70) dX12_clashOf_70 (fun x13 => ?_)
      refine G_callSI (as := [vI x10, vI x13]) (st := []) (bc2 := 0) (bs2 := 0) (pc := 71) dX12_clashOf_71 z_mX12_more z_sX12_more z_wX12_256 (gX12_more hst fu s x10 x13) rfl rfl ⟨by decide, by decide, by decide, by decide, Nat.le_of_ble_eq_true rfl⟩ rfl (fun x15 s14 => ?_)
      refine G_istore (lv' := [vR a0, vU, vI a2, vI a3, vI a4, vI a5, vI a6, vI x15, vU]) (pc := 74) dX12_clashOf_74 rfl ?_
      refine G_aload_n (x := a0) (pc := 76) dX12_clashOf_76 rfl ?_
      refine G_getR (j := 61) (pc := 77) dX12_clashOf_77 rfl z_CLX12 (by decide) z_wX12_152 (by decide) (fun x16 => ?_)
      refine G_iload (x := a5) (pc := 80) dX12_clashOf_80 rfl ?_
      refine G_aald103 (pc := 82) dX12_clashOf_82 (fun x17 => ?_)
      refine G_iconst (pc := 83) dX12_clashOf_83 ?_
      refine G_iald (pc := 84) dX12_clashOf_84 (fun x18 => ?_)
      refine G_aload_n (x := a0) (pc := 85) dX12_clashOf_85 rfl ?_
      refine G_getR (j := 61) (pc := 86) dX12_clashOf_86 rfl z_CLX12 (by decide) z_wX12_152 (by decide) (fun x19 => ?_)
      refine G_iload (x := a5) (pc := 89) dX12_clashOf_89 rfl ?_
      refine G_aald103 (pc := 91) dX12_clashOf_91 (fun x20 => ?_)
      refine G_iconst (pc := 92) dX12_clashOf_92 ?_
      refine G_iald (pc := 93) dX12_clashOf_93 (fun x21 => ?_)
      refine G_iadd (pc := 94) dX12_clashOf_94 (fun x22 => ?_)
      refine G_aload_n (x := a0) (pc := 95) dX12_clashOf_95 rfl ?_
      refine G_getR (j := 61) (pc := 96) dX12_clashOf_96 rfl z_CLX12 (by decide) z_wX12_152 (by decide) (fun x23 => ?_)
      refine G_iload (x := a6) (pc := 99) dX12_clashOf_99 rfl ?_
      refine G_aald103 (pc := 101) dX12_clashOf_101 (fun x24 => ?_)
      refine G_iconst (pc := 102) dX12_clashOf_102 ?_
      refine G_iald (pc := 103) dX12_clashOf_103 (fun x25 => ?_)
      refine G_aload_n (x := a0) (pc := 104) dX12_clashOf_104 rfl ?_
      refine G_getR (j := 61) (pc := 105) dX12_clashOf_105 rfl z_CLX12 (by decide) z_wX12_152 (by decide) (fun x26 => ?_)
      refine G_iload (x := a6) (pc := 108) dX12_clashOf_108 rfl ?_
      refine G_aald103 (pc := 110) dX12_clashOf_110 (fun x27 => ?_)
      refine G_iconst (pc := 111) dX12_clashOf_111 ?_
      refine G_iald (pc := 112) dX12_clashOf_112 (fun x28 => ?_)
      refine G_iadd (pc := 113) dX12_clashOf_113 (fun x29 => ?_)
      refine G_callSI (as := [vI x22, vI x29]) (st := []) (bc2 := 0) (bs2 := 0) (pc := 114) dX12_clashOf_114 z_mX12_less z_sX12_less z_wX12_260 (gX12_less hst fu s14 x22 x29) rfl rfl ⟨by decide, by decide, by decide, by decide, Nat.le_of_ble_eq_true rfl⟩ rfl (fun x31 s30 => ?_)
      refine G_istore (lv' := [vR a0, vU, vI a2, vI a3, vI a4, vI a5, vI a6, vI x15, vI x31]) (pc := 117) dX12_clashOf_117 rfl ?_
      refine G_iload (x := x15) (pc := 119) dX12_clashOf_119 rfl ?_
      refine G_iload (x := x31) (pc := 121) dX12_clashOf_121 rfl ?_
      refine G_icmp_ge (tgt := 145) (pc := 123) dX12_clashOf_123 ?_ ?_
      · refine G_fg (lv2 := [vR a0, vU, vI a2, vI a3, vI a4, vI a5, vI a6, vU, vU]) ⟨Or.inr rfl, Or.inl rfl, Or.inr rfl, Or.inr rfl, Or.inr rfl, Or.inr rfl, Or.inr rfl, Or.inl rfl, Or.inl rfl, trivial⟩ ?_
        exact gX12_clashOf_J145 hst fu s30 a0 a2 a3 a4 a5 a6 _ _ (fun w v4 v6 => ih w v4 v6) hk
      · refine G_iload (x := a4) (pc := 126) dX12_clashOf_126 rfl ?_
        refine G_sipush (pc := 128) dX12_clashOf_128 ?_
        refine G_icmp_eq (tgt := 141) (pc := 131) dX12_clashOf_131 ?_ ?_
        · refine G_fg (lv2 := [vR a0, vU, vI a2, vI a3, vU, vI a5, vI a6, vI x15, vU]) ⟨Or.inr rfl, Or.inl rfl, Or.inr rfl, Or.inr rfl, Or.inl rfl, Or.inr rfl, Or.inr rfl, Or.inr rfl, Or.inl rfl, trivial⟩ ?_
          exact gX12_clashOf_J141 hst fu s30 a0 a2 a3 a5 a6 x15 _ _ (fun w v4 v6 => ih w v4 v6) hk
        · refine G_iload (x := x15) (pc := 134) dX12_clashOf_134 rfl ?_
          refine G_iload (x := a4) (pc := 136) dX12_clashOf_136 rfl ?_
          refine G_icmp_ge (tgt := 145) (pc := 138) dX12_clashOf_138 ?_ ?_
          · refine G_fg (lv2 := [vR a0, vU, vI a2, vI a3, vI a4, vI a5, vI a6, vU, vU]) ⟨Or.inr rfl, Or.inl rfl, Or.inr rfl, Or.inr rfl, Or.inr rfl, Or.inr rfl, Or.inr rfl, Or.inl rfl, Or.inl rfl, trivial⟩ ?_
            exact gX12_clashOf_J145 hst fu s30 a0 a2 a3 a4 a5 a6 _ _ (fun w v4 v6 => ih w v4 v6) hk
          · refine G_fg (lv2 := [vR a0, vU, vI a2, vI a3, vU, vI a5, vI a6, vI x15, vU]) ⟨Or.inr rfl, Or.inl rfl, Or.inr rfl, Or.inr rfl, Or.inl rfl, Or.inr rfl, Or.inr rfl, Or.inr rfl, Or.inl rfl, trivial⟩ ?_
            exact gX12_clashOf_J141 hst fu s30 a0 a2 a3 a5 a6 x15 _ _ (fun w v4 v6 => ih w v4 v6) hk
def fX12_clashOf_L38 (fu : Nat) (a0 : Int) (a2 : Int) (a3 : Int) : Nat → z_M → Int → Int → (z_M → Int → z_O) → z_O
  | 0, _, _, _, _ => none
  | F + 1, s, a4, a5, k => if (a2 : Int) ≤ a5 then (k s a4) else (fX12_clashOf_L47 fu a0 a2 a3 a5 fu s a4 a2 (fun s33 x34 => z_let (z_w (a5 + 1)) (fun x35 => fX12_clashOf_L38 fu a0 a2 a3 F s33 x34 x35 k)))
theorem gX12_clashOf_L38 {l : Launch} {K : z_K} (hst : l.stackTraces = false) (fu : Nat) (a0 : Int) (a2 : Int) (a3 : Int) (k : z_M → Int → z_O) (hk : ∀ (s : z_M) (a4 : Int), G l K mX12_clashOf 6 142 0 0 157 [vU, vU, vU, vU, vI a4, vU, vU, vU, vU] [] s (k s a4)) : ∀ (F : Nat) (s : z_M) (a4 : Int) (a5 : Int), G l K mX12_clashOf 6 142 0 0 38 [vR a0, vU, vI a2, vI a3, vI a4, vI a5, vU, vU, vU] [] s (fX12_clashOf_L38 fu a0 a2 a3 F s a4 a5 k) := by
  intro F
  induction F with
  | zero => exact fun s a4 a5 h => absurd rfl h
  | succ F ih =>
    intro s a4 a5
    rw [fX12_clashOf_L38]
    refine G_iload (x := a5) (pc := 38) dX12_clashOf_38 rfl ?_
    refine G_iload_n (x := a2) (pc := 40) dX12_clashOf_40 rfl ?_
    refine G_icmp_ge (tgt := 157) (pc := 41) dX12_clashOf_41 ?_ ?_
    · refine G_fg (lv2 := [vU, vU, vU, vU, vI a4, vU, vU, vU, vU]) ⟨Or.inl rfl, Or.inl rfl, Or.inl rfl, Or.inl rfl, Or.inr rfl, Or.inl rfl, Or.inl rfl, Or.inl rfl, Or.inl rfl, trivial⟩ ?_
      exact hk s a4
    · refine G_iload_n (x := a2) (pc := 44) dX12_clashOf_44 rfl ?_
      refine G_istore (lv' := [vR a0, vU, vI a2, vI a3, vI a4, vI a5, vI a2, vU, vU]) (pc := 45) dX12_clashOf_45 rfl ?_
      refine gX12_clashOf_L47 hst fu a0 a2 a3 a5 _ (fun s33 x34 => ?_) fu s a4 a2
      refine G_iinc (x := a5) (g := fun x35 => [vR a0, vU, vI a2, vI a3, vI x34, vI x35, vU, vU, vU]) (pc := 151) dX12_clashOf_151 rfl (fun _ => rfl) (fun x35 => ?_)
      refine G_goto (tgt := 38) (pc := 154) dX12_clashOf_154 ?_
      exact ih s33 x34 x35
def fX12_clashOf (fu : Nat) (s : z_M) (a0 : Int) (a1 : Int) : z_O := z_let (z_w (a1 + 1)) (fun x1 => if z_ob a0 12 then z_let (s a0 44) (fun x2 => if (x1 : Int) < x2 then (if z_ob a0 12 then z_bI (fX12_sideOf fu s a0 a1 1) (fun x4 s3 => z_let (z_w (a1 + 1)) (fun x5 => if z_ob a0 12 then z_bI (fX12_laysSide fu s3 a0 x5 0) (fun x7 s6 => fX12_clashOf_L38 fu a0 x4 x7 fu s6 (-1000) 0 (fun s36 x37 => some (vI x37, s36))) else none)) else none) else (some (vI (-1000), s))) else none)
theorem gX12_clashOf {l : Launch} {K : z_K} (hst : l.stackTraces = false) (fu : Nat) (s : z_M) (a0 : Int) (a1 : Int) : z_D l K mX12_clashOf 6 142 0 0 [vR a0, vI a1] s (fX12_clashOf fu s a0 a1) := by
  refine z_D_of (lv := [vR a0, vI a1, vU, vU, vU, vU, vU, vU, vU]) hst z_mX12_clashOf rfl ?_ (Nat.le_of_ble_eq_true rfl) rfl
  unfold fX12_clashOf
  refine G_iload_n (x := a1) (pc := 0) dX12_clashOf_0 rfl ?_
  refine G_iconst (pc := 1) dX12_clashOf_1 ?_
  refine G_iadd (pc := 2) dX12_clashOf_2 (fun x1 => ?_)
  refine G_aload_n (x := a0) (pc := 3) dX12_clashOf_3 rfl ?_
  refine G_getI (j := 44) (pc := 4) dX12_clashOf_4 rfl z_CLX12 (by decide) z_wX12_365 (by decide) (fun x2 => ?_)
  refine G_icmp_lt (tgt := 14) (pc := 7) dX12_clashOf_7 ?_ ?_
  · refine G_aload_n (x := a0) (pc := 14) dX12_clashOf_14 rfl ?_
    refine G_iload_n (x := a1) (pc := 15) dX12_clashOf_15 rfl ?_
    refine G_iconst (pc := 16) dX12_clashOf_16 ?_
    refine G_callVI (as := [vI a1, vI 1]) (st := []) (c := 12) (bc2 := 0) (bs2 := 0) (pc := 17) dX12_clashOf_17 z_mX12_sideOf z_vX12_sideOf z_wX12_417 (gX12_sideOf hst fu s a0 a1 1) rfl rfl (by decide) rfl rfl ⟨by decide, by decide, by decide, by decide, Nat.le_of_ble_eq_true rfl⟩ rfl (fun x4 s3 => ?_)
    refine G_istore_n (lv' := [vR a0, vI a1, vI x4, vU, vU, vU, vU, vU, vU]) (pc := 20) dX12_clashOf_20 rfl ?_
    refine G_aload_n (x := a0) (pc := 21) dX12_clashOf_21 rfl ?_
    refine G_iload_n (x := a1) (pc := 22) dX12_clashOf_22 rfl ?_
    refine G_iconst (pc := 23) dX12_clashOf_23 ?_
    refine G_iadd (pc := 24) dX12_clashOf_24 (fun x5 => ?_)
    refine G_iconst (pc := 25) dX12_clashOf_25 ?_
    refine G_callVI (as := [vI x5, vI 0]) (st := []) (c := 12) (bc2 := 0) (bs2 := 0) (pc := 26) dX12_clashOf_26 z_mX12_laysSide z_vX12_laysSide z_wX12_411 (gX12_laysSide hst fu s3 a0 x5 0) rfl rfl (by decide) rfl rfl ⟨by decide, by decide, by decide, by decide, Nat.le_of_ble_eq_true rfl⟩ rfl (fun x7 s6 => ?_)
    refine G_istore_n (lv' := [vR a0, vI a1, vI x4, vI x7, vU, vU, vU, vU, vU]) (pc := 29) dX12_clashOf_29 rfl ?_
    refine G_sipush (pc := 30) dX12_clashOf_30 ?_
    refine G_istore (lv' := [vR a0, vI a1, vI x4, vI x7, vI (-1000), vU, vU, vU, vU]) (pc := 33) dX12_clashOf_33 rfl ?_
    refine G_iconst (pc := 35) dX12_clashOf_35 ?_
    refine G_istore (lv' := [vR a0, vI a1, vI x4, vI x7, vI (-1000), vI 0, vU, vU, vU]) (pc := 36) dX12_clashOf_36 rfl ?_
    refine G_fg (lv2 := [vR a0, vU, vI x4, vI x7, vI (-1000), vI 0, vU, vU, vU]) ⟨Or.inr rfl, Or.inl rfl, Or.inr rfl, Or.inr rfl, Or.inr rfl, Or.inr rfl, Or.inl rfl, Or.inl rfl, Or.inl rfl, trivial⟩ ?_
    refine gX12_clashOf_L38 hst fu a0 x4 x7 _ (fun s36 x37 => ?_) fu s6 (-1000) 0
    refine G_iload (x := x37) (pc := 157) dX12_clashOf_157 rfl ?_
    exact G_iret (pc := 159) dX12_clashOf_159
  · refine G_sipush (pc := 10) dX12_clashOf_10 ?_
    exact G_iret (pc := 13) dX12_clashOf_13
def fX12_gutterOf_J53 (fu : Nat) (s : z_M) (t0 : Int) (t1 : Int) : z_O := z_let (z_w (t0 + t1)) (fun x11 => some (vI x11, s))
theorem gX12_gutterOf_J53 {l : Launch} {K : z_K} (hst : l.stackTraces = false) (fu : Nat) (s : z_M) (t0 : Int) (t1 : Int) : G l K mX12_gutterOf 7 170 0 0 53 [vU, vU] [vI t1, vI t0] s (fX12_gutterOf_J53 fu s t0 t1) := by
  unfold fX12_gutterOf_J53
  refine G_iadd (pc := 53) dX12_gutterOf_53 (fun x11 => ?_)
  exact G_iret (pc := 54) dX12_gutterOf_54
def fX12_gutterOf (fu : Nat) (s : z_M) (a0 : Int) (a1 : Int) : z_O := if z_ob a0 12 then z_bI (fX12_clashOf fu s a0 a1) (fun x2 s1 => if (x2 : Int) = (-1000) then (if z_ob a0 12 then z_let (z_gr a0 9) (fun x3 => if z_ix x3 100 8 then z_let (s1 x3 8) (fun x4 => if z_ob a0 12 then z_bI (fX12_sideOf fu s1 a0 a1 1) (fun x6 s5 => z_let (z_w (a1 + 1)) (fun x7 => if z_ob a0 12 then z_bI (fX12_sideOf fu s5 a0 x7 0) (fun x9 s8 => z_let (z_w (x6 + x9)) (fun x10 => if (x10 : Int) ≤ 0 then (fX12_gutterOf_J53 fu s8 x4 0) else (fX12_gutterOf_J53 fu s8 x4 6))) else none)) else none) else none) else none) else (if z_ob a0 12 then z_let (z_gr a0 9) (fun x12 => if z_ix x12 100 8 then z_let (s1 x12 8) (fun x13 => z_let (z_w (x13 + 12)) (fun x14 => some (vI x14, s1))) else none) else none)) else none
theorem gX12_gutterOf {l : Launch} {K : z_K} (hst : l.stackTraces = false) (fu : Nat) (s : z_M) (a0 : Int) (a1 : Int) : z_D l K mX12_gutterOf 7 170 0 0 [vR a0, vI a1] s (fX12_gutterOf fu s a0 a1) := by
  refine z_D_of (lv := [vR a0, vI a1]) hst z_mX12_gutterOf rfl ?_ (Nat.le_of_ble_eq_true rfl) rfl
  unfold fX12_gutterOf
  refine G_aload_n (x := a0) (pc := 0) dX12_gutterOf_0 rfl ?_
  refine G_iload_n (x := a1) (pc := 1) dX12_gutterOf_1 rfl ?_
  refine G_callVI (as := [vI a1]) (st := []) (c := 12) (bc2 := 0) (bs2 := 0) (pc := 2) dX12_gutterOf_2 z_mX12_clashOf z_vX12_clashOf z_wX12_420 (gX12_clashOf hst fu s a0 a1) rfl rfl (by decide) rfl rfl ⟨by decide, by decide, by decide, by decide, Nat.le_of_ble_eq_true rfl⟩ rfl (fun x2 s1 => ?_)
  refine G_sipush (pc := 5) dX12_gutterOf_5 ?_
  refine G_icmp_eq (tgt := 22) (pc := 8) dX12_gutterOf_8 ?_ ?_
  · refine G_aload_n (x := a0) (pc := 22) dX12_gutterOf_22 rfl ?_
    refine G_getR (j := 9) (pc := 23) dX12_gutterOf_23 rfl z_CLX12 (by decide) z_wX12_20 (by decide) (fun x3 => ?_)
    refine G_bipush (pc := 26) dX12_gutterOf_26 ?_
    refine G_iald (pc := 28) dX12_gutterOf_28 (fun x4 => ?_)
    refine G_aload_n (x := a0) (pc := 29) dX12_gutterOf_29 rfl ?_
    refine G_iload_n (x := a1) (pc := 30) dX12_gutterOf_30 rfl ?_
    refine G_iconst (pc := 31) dX12_gutterOf_31 ?_
    refine G_callVI (as := [vI a1, vI 1]) (st := [vI x4]) (c := 12) (bc2 := 0) (bs2 := 0) (pc := 32) dX12_gutterOf_32 z_mX12_sideOf z_vX12_sideOf z_wX12_417 (gX12_sideOf hst fu s1 a0 a1 1) rfl rfl (by decide) rfl rfl ⟨by decide, by decide, by decide, by decide, Nat.le_of_ble_eq_true rfl⟩ rfl (fun x6 s5 => ?_)
    refine G_aload_n (x := a0) (pc := 35) dX12_gutterOf_35 rfl ?_
    refine G_iload_n (x := a1) (pc := 36) dX12_gutterOf_36 rfl ?_
    refine G_iconst (pc := 37) dX12_gutterOf_37 ?_
    refine G_iadd (pc := 38) dX12_gutterOf_38 (fun x7 => ?_)
    refine G_iconst (pc := 39) dX12_gutterOf_39 ?_
    refine G_callVI (as := [vI x7, vI 0]) (st := [vI x6, vI x4]) (c := 12) (bc2 := 0) (bs2 := 0) (pc := 40) dX12_gutterOf_40 z_mX12_sideOf z_vX12_sideOf z_wX12_417 (gX12_sideOf hst fu s5 a0 x7 0) rfl rfl (by decide) rfl rfl ⟨by decide, by decide, by decide, by decide, Nat.le_of_ble_eq_true rfl⟩ rfl (fun x9 s8 => ?_)
    refine G_iadd (pc := 43) dX12_gutterOf_43 (fun x10 => ?_)
    refine G_if_le (tgt := 52) (pc := 44) dX12_gutterOf_44 ?_ ?_
    · refine G_iconst (pc := 52) dX12_gutterOf_52 ?_
      refine G_fg (lv2 := [vU, vU]) ⟨Or.inl rfl, Or.inl rfl, trivial⟩ ?_
      exact gX12_gutterOf_J53 hst fu s8 x4 0
    · refine G_bipush (pc := 47) dX12_gutterOf_47 ?_
      refine G_goto (tgt := 53) (pc := 49) dX12_gutterOf_49 ?_
      refine G_fg (lv2 := [vU, vU]) ⟨Or.inl rfl, Or.inl rfl, trivial⟩ ?_
      exact gX12_gutterOf_J53 hst fu s8 x4 6
  · refine G_aload_n (x := a0) (pc := 11) dX12_gutterOf_11 rfl ?_
    refine G_getR (j := 9) (pc := 12) dX12_gutterOf_12 rfl z_CLX12 (by decide) z_wX12_20 (by decide) (fun x12 => ?_)
    refine G_bipush (pc := 15) dX12_gutterOf_15 ?_
    refine G_iald (pc := 17) dX12_gutterOf_17 (fun x13 => ?_)
    refine G_bipush (pc := 18) dX12_gutterOf_18 ?_
    refine G_iadd (pc := 20) dX12_gutterOf_20 (fun x14 => ?_)
    exact G_iret (pc := 21) dX12_gutterOf_21
def fX12_gutter_J48 (fu : Nat) (s : z_M) (t0 : Int) : z_O := some (vI t0, s)
theorem gX12_gutter_J48 {l : Launch} {K : z_K} (hst : l.stackTraces = false) (fu : Nat) (s : z_M) (t0 : Int) : G l K mX12_gutter 12 271 0 0 48 [vU, vU] [vI t0] s (fX12_gutter_J48 fu s t0) := by
  unfold fX12_gutter_J48
  exact G_iret (pc := 48) dX12_gutter_48
def fX12_gutter_J19 (fu : Nat) (s : z_M) (a0 : Int) (a1 : Int) (t0 : Int) (t1 : Int) : z_O := if z_ob t0 12 then z_bI (fX12_bad fu s t0 t1 1 0) (fun x5 s4 => if (x5 : Int) = 0 then (z_let (z_w (a1 + 1)) (fun x6 => if z_ob a0 12 then z_let (s4 a0 44) (fun x7 => if (x6 : Int) ≠ x7 then (if z_ob a0 12 then z_bI (fX12_gutterOf fu s4 a0 a1) (fun x9 s8 => fX12_gutter_J48 fu s8 x9) else none) else (fX12_gutter_J48 fu s4 (-1))) else none)) else (some (vI 0, s4))) else none
theorem gX12_gutter_J19 {l : Launch} {K : z_K} (hst : l.stackTraces = false) (fu : Nat) (s : z_M) (a0 : Int) (a1 : Int) (t0 : Int) (t1 : Int) : G l K mX12_gutter 12 271 0 0 19 [vR a0, vI a1] [vI t1, vR t0] s (fX12_gutter_J19 fu s a0 a1 t0 t1) := by
  unfold fX12_gutter_J19
  refine G_iconst (pc := 19) dX12_gutter_19 ?_
  refine G_iconst (pc := 20) dX12_gutter_20 ?_
  refine G_callVI (as := [vI t1, vI 1, vI 0]) (st := []) (c := 12) (bc2 := 0) (bs2 := 0) (pc := 21) dX12_gutter_21 z_mX12_bad z_vX12_bad z_wX12_249 (gX12_bad hst fu s t0 t1 1 0) rfl rfl (by decide) rfl rfl ⟨by decide, by decide, by decide, by decide, Nat.le_of_ble_eq_true rfl⟩ rfl (fun x5 s4 => ?_)
  refine G_if_eq (tgt := 29) (pc := 24) dX12_gutter_24 ?_ ?_
  · refine G_iload_n (x := a1) (pc := 29) dX12_gutter_29 rfl ?_
    refine G_iconst (pc := 30) dX12_gutter_30 ?_
    refine G_iadd (pc := 31) dX12_gutter_31 (fun x6 => ?_)
    refine G_aload_n (x := a0) (pc := 32) dX12_gutter_32 rfl ?_
    refine G_getI (j := 44) (pc := 33) dX12_gutter_33 rfl z_CLX12 (by decide) z_wX12_365 (by decide) (fun x7 => ?_)
    refine G_icmp_ne (tgt := 43) (pc := 36) dX12_gutter_36 ?_ ?_
    · refine G_aload_n (x := a0) (pc := 43) dX12_gutter_43 rfl ?_
      refine G_iload_n (x := a1) (pc := 44) dX12_gutter_44 rfl ?_
      refine G_callVI (as := [vI a1]) (st := []) (c := 12) (bc2 := 0) (bs2 := 0) (pc := 45) dX12_gutter_45 z_mX12_gutterOf z_vX12_gutterOf z_wX12_423 (gX12_gutterOf hst fu s4 a0 a1) rfl rfl (by decide) rfl rfl ⟨by decide, by decide, by decide, by decide, Nat.le_of_ble_eq_true rfl⟩ rfl (fun x9 s8 => ?_)
      refine G_fg (lv2 := [vU, vU]) ⟨Or.inl rfl, Or.inl rfl, trivial⟩ ?_
      exact gX12_gutter_J48 hst fu s8 x9
    · refine G_iconst (pc := 39) dX12_gutter_39 ?_
      refine G_goto (tgt := 48) (pc := 40) dX12_gutter_40 ?_
      refine G_fg (lv2 := [vU, vU]) ⟨Or.inl rfl, Or.inl rfl, trivial⟩ ?_
      exact gX12_gutter_J48 hst fu s4 (-1)
  · refine G_iconst (pc := 27) dX12_gutter_27 ?_
    exact G_iret (pc := 28) dX12_gutter_28
def fX12_gutter (fu : Nat) (s : z_M) (a0 : Int) (a1 : Int) : z_O := if z_ob a0 12 then z_let (z_up s a0 0 0) (fun s1 => if z_ob a0 12 then z_bI (fX12_isLine fu s1 a0 a1) (fun x3 s2 => if (x3 : Int) ≠ 0 then (fX12_gutter_J19 fu s2 a0 a1 a0 0) else (fX12_gutter_J19 fu s2 a0 a1 a0 1)) else none) else none
theorem gX12_gutter {l : Launch} {K : z_K} (hst : l.stackTraces = false) (fu : Nat) (s : z_M) (a0 : Int) (a1 : Int) : z_D l K mX12_gutter 12 271 0 0 [vR a0, vI a1] s (fX12_gutter fu s a0 a1) := by
  refine z_D_of (lv := [vR a0, vI a1]) hst z_mX12_gutter rfl ?_ (Nat.le_of_ble_eq_true rfl) rfl
  unfold fX12_gutter
  refine G_aload_n (x := a0) (pc := 0) dX12_gutter_0 rfl ?_
  refine G_iconst (pc := 1) dX12_gutter_1 ?_
  refine G_putI (j := 0) (pc := 2) dX12_gutter_2 rfl z_CLX12 (by decide) z_wX12_170 rfl (by decide) (by decide) (fun s1 => ?_)
  refine G_aload_n (x := a0) (pc := 5) dX12_gutter_5 rfl ?_
  refine G_aload_n (x := a0) (pc := 6) dX12_gutter_6 rfl ?_
  refine G_iload_n (x := a1) (pc := 7) dX12_gutter_7 rfl ?_
  refine G_callVI (as := [vI a1]) (st := [vR a0]) (c := 12) (bc2 := 0) (bs2 := 0) (pc := 8) dX12_gutter_8 z_mX12_isLine z_vX12_isLine z_wX12_414 (gX12_isLine hst fu s1 a0 a1) rfl rfl (by decide) rfl rfl ⟨by decide, by decide, by decide, by decide, Nat.le_of_ble_eq_true rfl⟩ rfl (fun x3 s2 => ?_)
  refine G_if_ne (tgt := 18) (pc := 11) dX12_gutter_11 ?_ ?_
  · refine G_iconst (pc := 18) dX12_gutter_18 ?_
    exact gX12_gutter_J19 hst fu s2 a0 a1 a0 0
  · refine G_iconst (pc := 14) dX12_gutter_14 ?_
    refine G_goto (tgt := 19) (pc := 15) dX12_gutter_15 ?_
    exact gX12_gutter_J19 hst fu s2 a0 a1 a0 1
def fX12_clash_J19 (fu : Nat) (s : z_M) (a0 : Int) (a1 : Int) (t0 : Int) (t1 : Int) : z_O := if z_ob t0 12 then z_bI (fX12_bad fu s t0 t1 1 0) (fun x5 s4 => if (x5 : Int) = 0 then (if z_ob a0 12 then z_bI (fX12_clashOf fu s4 a0 a1) (fun x7 s6 => some (vI x7, s6)) else none) else (some (vI 0, s4))) else none
theorem gX12_clash_J19 {l : Launch} {K : z_K} (hst : l.stackTraces = false) (fu : Nat) (s : z_M) (a0 : Int) (a1 : Int) (t0 : Int) (t1 : Int) : G l K mX12_clash 12 271 0 0 19 [vR a0, vI a1] [vI t1, vR t0] s (fX12_clash_J19 fu s a0 a1 t0 t1) := by
  unfold fX12_clash_J19
  refine G_iconst (pc := 19) dX12_clash_19 ?_
  refine G_iconst (pc := 20) dX12_clash_20 ?_
  refine G_callVI (as := [vI t1, vI 1, vI 0]) (st := []) (c := 12) (bc2 := 0) (bs2 := 0) (pc := 21) dX12_clash_21 z_mX12_bad z_vX12_bad z_wX12_249 (gX12_bad hst fu s t0 t1 1 0) rfl rfl (by decide) rfl rfl ⟨by decide, by decide, by decide, by decide, Nat.le_of_ble_eq_true rfl⟩ rfl (fun x5 s4 => ?_)
  refine G_if_eq (tgt := 29) (pc := 24) dX12_clash_24 ?_ ?_
  · refine G_aload_n (x := a0) (pc := 29) dX12_clash_29 rfl ?_
    refine G_iload_n (x := a1) (pc := 30) dX12_clash_30 rfl ?_
    refine G_callVI (as := [vI a1]) (st := []) (c := 12) (bc2 := 0) (bs2 := 0) (pc := 31) dX12_clash_31 z_mX12_clashOf z_vX12_clashOf z_wX12_420 (gX12_clashOf hst fu s4 a0 a1) rfl rfl (by decide) rfl rfl ⟨by decide, by decide, by decide, by decide, Nat.le_of_ble_eq_true rfl⟩ rfl (fun x7 s6 => ?_)
    exact G_iret (pc := 34) dX12_clash_34
  · refine G_iconst (pc := 27) dX12_clash_27 ?_
    exact G_iret (pc := 28) dX12_clash_28
def fX12_clash (fu : Nat) (s : z_M) (a0 : Int) (a1 : Int) : z_O := if z_ob a0 12 then z_let (z_up s a0 0 0) (fun s1 => if z_ob a0 12 then z_bI (fX12_isLine fu s1 a0 a1) (fun x3 s2 => if (x3 : Int) ≠ 0 then (fX12_clash_J19 fu s2 a0 a1 a0 0) else (fX12_clash_J19 fu s2 a0 a1 a0 1)) else none) else none
theorem gX12_clash {l : Launch} {K : z_K} (hst : l.stackTraces = false) (fu : Nat) (s : z_M) (a0 : Int) (a1 : Int) : z_D l K mX12_clash 12 271 0 0 [vR a0, vI a1] s (fX12_clash fu s a0 a1) := by
  refine z_D_of (lv := [vR a0, vI a1]) hst z_mX12_clash rfl ?_ (Nat.le_of_ble_eq_true rfl) rfl
  unfold fX12_clash
  refine G_aload_n (x := a0) (pc := 0) dX12_clash_0 rfl ?_
  refine G_iconst (pc := 1) dX12_clash_1 ?_
  refine G_putI (j := 0) (pc := 2) dX12_clash_2 rfl z_CLX12 (by decide) z_wX12_170 rfl (by decide) (by decide) (fun s1 => ?_)
  refine G_aload_n (x := a0) (pc := 5) dX12_clash_5 rfl ?_
  refine G_aload_n (x := a0) (pc := 6) dX12_clash_6 rfl ?_
  refine G_iload_n (x := a1) (pc := 7) dX12_clash_7 rfl ?_
  refine G_callVI (as := [vI a1]) (st := [vR a0]) (c := 12) (bc2 := 0) (bs2 := 0) (pc := 8) dX12_clash_8 z_mX12_isLine z_vX12_isLine z_wX12_414 (gX12_isLine hst fu s1 a0 a1) rfl rfl (by decide) rfl rfl ⟨by decide, by decide, by decide, by decide, Nat.le_of_ble_eq_true rfl⟩ rfl (fun x3 s2 => ?_)
  refine G_if_ne (tgt := 18) (pc := 11) dX12_clash_11 ?_ ?_
  · refine G_iconst (pc := 18) dX12_clash_18 ?_
    exact gX12_clash_J19 hst fu s2 a0 a1 a0 0
  · refine G_iconst (pc := 14) dX12_clash_14 ?_
    refine G_goto (tgt := 19) (pc := 15) dX12_clash_15 ?_
    exact gX12_clash_J19 hst fu s2 a0 a1 a0 1
def fX12_thickOf_L38 (fu : Nat) (a0 : Int) (a2 : Int) : Nat → z_M → Int → Int → (z_M → Int → z_O) → z_O
  | 0, _, _, _, _ => none
  | F + 1, s, a3, a4, k => if (a2 : Int) ≤ a4 then (k s a3) else (if z_ob a0 12 then z_bI (fX12_gutterOf fu s a0 a4) (fun x8 s7 => z_let (z_w (12 + x8)) (fun x9 => z_let (z_w (a3 + x9)) (fun x10 => z_let (z_w (a4 + 1)) (fun x11 => fX12_thickOf_L38 fu a0 a2 F s7 x10 x11 k)))) else none)
theorem gX12_thickOf_L38 {l : Launch} {K : z_K} (hst : l.stackTraces = false) (fu : Nat) (a0 : Int) (a2 : Int) (k : z_M → Int → z_O) (hk : ∀ (s : z_M) (a3 : Int), G l K mX12_thickOf 8 191 0 0 62 [vU, vU, vU, vI a3, vU] [] s (k s a3)) : ∀ (F : Nat) (s : z_M) (a3 : Int) (a4 : Int), G l K mX12_thickOf 8 191 0 0 38 [vR a0, vU, vI a2, vI a3, vI a4] [] s (fX12_thickOf_L38 fu a0 a2 F s a3 a4 k) := by
  intro F
  induction F with
  | zero => exact fun s a3 a4 h => absurd rfl h
  | succ F ih =>
    intro s a3 a4
    rw [fX12_thickOf_L38]
    refine G_iload (x := a4) (pc := 38) dX12_thickOf_38 rfl ?_
    refine G_iload_n (x := a2) (pc := 40) dX12_thickOf_40 rfl ?_
    refine G_icmp_ge (tgt := 62) (pc := 41) dX12_thickOf_41 ?_ ?_
    · refine G_fg (lv2 := [vU, vU, vU, vI a3, vU]) ⟨Or.inl rfl, Or.inl rfl, Or.inl rfl, Or.inr rfl, Or.inl rfl, trivial⟩ ?_
      exact hk s a3
    · refine G_iload_n (x := a3) (pc := 44) dX12_thickOf_44 rfl ?_
      refine G_bipush (pc := 45) dX12_thickOf_45 ?_
      refine G_aload_n (x := a0) (pc := 47) dX12_thickOf_47 rfl ?_
      refine G_iload (x := a4) (pc := 48) dX12_thickOf_48 rfl ?_
      refine G_callVI (as := [vI a4]) (st := [vI 12, vI a3]) (c := 12) (bc2 := 0) (bs2 := 0) (pc := 50) dX12_thickOf_50 z_mX12_gutterOf z_vX12_gutterOf z_wX12_423 (gX12_gutterOf hst fu s a0 a4) rfl rfl (by decide) rfl rfl ⟨by decide, by decide, by decide, by decide, Nat.le_of_ble_eq_true rfl⟩ rfl (fun x8 s7 => ?_)
      refine G_iadd (pc := 53) dX12_thickOf_53 (fun x9 => ?_)
      refine G_iadd (pc := 54) dX12_thickOf_54 (fun x10 => ?_)
      refine G_istore_n (lv' := [vR a0, vU, vI a2, vI x10, vI a4]) (pc := 55) dX12_thickOf_55 rfl ?_
      refine G_iinc (x := a4) (g := fun x11 => [vR a0, vU, vI a2, vI x10, vI x11]) (pc := 56) dX12_thickOf_56 rfl (fun _ => rfl) (fun x11 => ?_)
      refine G_goto (tgt := 38) (pc := 59) dX12_thickOf_59 ?_
      exact ih s7 x10 x11
def fX12_thickOf_J30 (fu : Nat) (s : z_M) (a0 : Int) (a1 : Int) (a2 : Int) (t0 : Int) (t1 : Int) : z_O := z_let (z_w (t0 + t1)) (fun x5 => z_let (z_w (x5 + 12)) (fun x6 => fX12_thickOf_L38 fu a0 a2 fu s x6 a1 (fun s12 x13 => some (vI x13, s12))))
theorem gX12_thickOf_J30 {l : Launch} {K : z_K} (hst : l.stackTraces = false) (fu : Nat) (s : z_M) (a0 : Int) (a1 : Int) (a2 : Int) (t0 : Int) (t1 : Int) : G l K mX12_thickOf 8 191 0 0 30 [vR a0, vI a1, vI a2, vU, vU] [vI t1, vI t0] s (fX12_thickOf_J30 fu s a0 a1 a2 t0 t1) := by
  unfold fX12_thickOf_J30
  refine G_iadd (pc := 30) dX12_thickOf_30 (fun x5 => ?_)
  refine G_bipush (pc := 31) dX12_thickOf_31 ?_
  refine G_iadd (pc := 33) dX12_thickOf_33 (fun x6 => ?_)
  refine G_istore_n (lv' := [vR a0, vI a1, vI a2, vI x6, vU]) (pc := 34) dX12_thickOf_34 rfl ?_
  refine G_iload_n (x := a1) (pc := 35) dX12_thickOf_35 rfl ?_
  refine G_istore (lv' := [vR a0, vI a1, vI a2, vI x6, vI a1]) (pc := 36) dX12_thickOf_36 rfl ?_
  refine G_fg (lv2 := [vR a0, vU, vI a2, vI x6, vI a1]) ⟨Or.inr rfl, Or.inl rfl, Or.inr rfl, Or.inr rfl, Or.inr rfl, trivial⟩ ?_
  refine gX12_thickOf_L38 hst fu a0 a2 _ (fun s12 x13 => ?_) fu s x6 a1
  refine G_iload_n (x := x13) (pc := 62) dX12_thickOf_62 rfl ?_
  exact G_iret (pc := 63) dX12_thickOf_63
def fX12_thickOf_J15 (fu : Nat) (s : z_M) (a0 : Int) (a1 : Int) (a2 : Int) (t0 : Int) : z_O := if z_ob a0 12 then z_bI (fX12_sideOf fu s a0 a2 1) (fun x4 s3 => if (x4 : Int) ≤ 0 then (fX12_thickOf_J30 fu s3 a0 a1 a2 t0 0) else (fX12_thickOf_J30 fu s3 a0 a1 a2 t0 6)) else none
theorem gX12_thickOf_J15 {l : Launch} {K : z_K} (hst : l.stackTraces = false) (fu : Nat) (s : z_M) (a0 : Int) (a1 : Int) (a2 : Int) (t0 : Int) : G l K mX12_thickOf 8 191 0 0 15 [vR a0, vI a1, vI a2, vU, vU] [vI t0] s (fX12_thickOf_J15 fu s a0 a1 a2 t0) := by
  unfold fX12_thickOf_J15
  refine G_aload_n (x := a0) (pc := 15) dX12_thickOf_15 rfl ?_
  refine G_iload_n (x := a2) (pc := 16) dX12_thickOf_16 rfl ?_
  refine G_iconst (pc := 17) dX12_thickOf_17 ?_
  refine G_callVI (as := [vI a2, vI 1]) (st := [vI t0]) (c := 12) (bc2 := 0) (bs2 := 0) (pc := 18) dX12_thickOf_18 z_mX12_sideOf z_vX12_sideOf z_wX12_417 (gX12_sideOf hst fu s a0 a2 1) rfl rfl (by decide) rfl rfl ⟨by decide, by decide, by decide, by decide, Nat.le_of_ble_eq_true rfl⟩ rfl (fun x4 s3 => ?_)
  refine G_if_le (tgt := 29) (pc := 21) dX12_thickOf_21 ?_ ?_
  · refine G_iconst (pc := 29) dX12_thickOf_29 ?_
    exact gX12_thickOf_J30 hst fu s3 a0 a1 a2 t0 0
  · refine G_bipush (pc := 24) dX12_thickOf_24 ?_
    refine G_goto (tgt := 30) (pc := 26) dX12_thickOf_26 ?_
    exact gX12_thickOf_J30 hst fu s3 a0 a1 a2 t0 6
def fX12_thickOf (fu : Nat) (s : z_M) (a0 : Int) (a1 : Int) (a2 : Int) : z_O := if z_ob a0 12 then z_bI (fX12_sideOf fu s a0 a1 0) (fun x2 s1 => if (x2 : Int) ≤ 0 then (fX12_thickOf_J15 fu s1 a0 a1 a2 0) else (fX12_thickOf_J15 fu s1 a0 a1 a2 6)) else none
theorem gX12_thickOf {l : Launch} {K : z_K} (hst : l.stackTraces = false) (fu : Nat) (s : z_M) (a0 : Int) (a1 : Int) (a2 : Int) : z_D l K mX12_thickOf 8 191 0 0 [vR a0, vI a1, vI a2] s (fX12_thickOf fu s a0 a1 a2) := by
  refine z_D_of (lv := [vR a0, vI a1, vI a2, vU, vU]) hst z_mX12_thickOf rfl ?_ (Nat.le_of_ble_eq_true rfl) rfl
  unfold fX12_thickOf
  refine G_aload_n (x := a0) (pc := 0) dX12_thickOf_0 rfl ?_
  refine G_iload_n (x := a1) (pc := 1) dX12_thickOf_1 rfl ?_
  refine G_iconst (pc := 2) dX12_thickOf_2 ?_
  refine G_callVI (as := [vI a1, vI 0]) (st := []) (c := 12) (bc2 := 0) (bs2 := 0) (pc := 3) dX12_thickOf_3 z_mX12_sideOf z_vX12_sideOf z_wX12_417 (gX12_sideOf hst fu s a0 a1 0) rfl rfl (by decide) rfl rfl ⟨by decide, by decide, by decide, by decide, Nat.le_of_ble_eq_true rfl⟩ rfl (fun x2 s1 => ?_)
  refine G_if_le (tgt := 14) (pc := 6) dX12_thickOf_6 ?_ ?_
  · refine G_iconst (pc := 14) dX12_thickOf_14 ?_
    exact gX12_thickOf_J15 hst fu s1 a0 a1 a2 0
  · refine G_bipush (pc := 9) dX12_thickOf_9 ?_
    refine G_goto (tgt := 15) (pc := 11) dX12_thickOf_11 ?_
    exact gX12_thickOf_J15 hst fu s1 a0 a1 a2 6
def fX12_thick_J54 (fu : Nat) (s : z_M) : z_O := some (vI 0, s)
theorem gX12_thick_J54 {l : Launch} {K : z_K} (hst : l.stackTraces = false) (fu : Nat) (s : z_M) : G l K mX12_thick 12 271 0 0 54 [vU, vU, vU] [] s (fX12_thick_J54 fu s) := by
  unfold fX12_thick_J54
  refine G_iconst (pc := 54) dX12_thick_54 ?_
  exact G_iret (pc := 55) dX12_thick_55
def fX12_thick_J46 (fu : Nat) (s : z_M) (a0 : Int) (a1 : Int) (a2 : Int) (t0 : Int) (t1 : Int) : z_O := if z_ob t0 12 then z_bI (fX12_bad fu s t0 t1 2 1) (fun x7 s6 => if (x7 : Int) = 0 then (if z_ob a0 12 then z_bI (fX12_thickOf fu s6 a0 a1 a2) (fun x9 s8 => some (vI x9, s8)) else none) else (fX12_thick_J54 fu s6)) else none
theorem gX12_thick_J46 {l : Launch} {K : z_K} (hst : l.stackTraces = false) (fu : Nat) (s : z_M) (a0 : Int) (a1 : Int) (a2 : Int) (t0 : Int) (t1 : Int) : G l K mX12_thick 12 271 0 0 46 [vR a0, vI a1, vI a2] [vI t1, vR t0] s (fX12_thick_J46 fu s a0 a1 a2 t0 t1) := by
  unfold fX12_thick_J46
  refine G_iconst (pc := 46) dX12_thick_46 ?_
  refine G_iconst (pc := 47) dX12_thick_47 ?_
  refine G_callVI (as := [vI t1, vI 2, vI 1]) (st := []) (c := 12) (bc2 := 0) (bs2 := 0) (pc := 48) dX12_thick_48 z_mX12_bad z_vX12_bad z_wX12_249 (gX12_bad hst fu s t0 t1 2 1) rfl rfl (by decide) rfl rfl ⟨by decide, by decide, by decide, by decide, Nat.le_of_ble_eq_true rfl⟩ rfl (fun x7 s6 => ?_)
  refine G_if_eq (tgt := 56) (pc := 51) dX12_thick_51 ?_ ?_
  · refine G_aload_n (x := a0) (pc := 56) dX12_thick_56 rfl ?_
    refine G_iload_n (x := a1) (pc := 57) dX12_thick_57 rfl ?_
    refine G_iload_n (x := a2) (pc := 58) dX12_thick_58 rfl ?_
    refine G_callVI (as := [vI a1, vI a2]) (st := []) (c := 12) (bc2 := 0) (bs2 := 0) (pc := 59) dX12_thick_59 z_mX12_thickOf z_vX12_thickOf z_wX12_426 (gX12_thickOf hst fu s6 a0 a1 a2) rfl rfl (by decide) rfl rfl ⟨by decide, by decide, by decide, by decide, Nat.le_of_ble_eq_true rfl⟩ rfl (fun x9 s8 => ?_)
    exact G_iret (pc := 62) dX12_thick_62
  · refine G_fg (lv2 := [vU, vU, vU]) ⟨Or.inl rfl, Or.inl rfl, Or.inl rfl, trivial⟩ ?_
    exact gX12_thick_J54 hst fu s6
def fX12_thick_J27 (fu : Nat) (s : z_M) (a0 : Int) (a1 : Int) (a2 : Int) (t0 : Int) (t1 : Int) : z_O := if z_ob t0 12 then z_bI (fX12_bad fu s t0 t1 1 0) (fun x5 s4 => if (x5 : Int) ≠ 0 then (fX12_thick_J54 fu s4) else (if (a1 : Int) ≤ a2 then (fX12_thick_J46 fu s4 a0 a1 a2 a0 0) else (fX12_thick_J46 fu s4 a0 a1 a2 a0 1))) else none
theorem gX12_thick_J27 {l : Launch} {K : z_K} (hst : l.stackTraces = false) (fu : Nat) (s : z_M) (a0 : Int) (a1 : Int) (a2 : Int) (t0 : Int) (t1 : Int) : G l K mX12_thick 12 271 0 0 27 [vR a0, vI a1, vI a2] [vI t1, vR t0] s (fX12_thick_J27 fu s a0 a1 a2 t0 t1) := by
  unfold fX12_thick_J27
  refine G_iconst (pc := 27) dX12_thick_27 ?_
  refine G_iconst (pc := 28) dX12_thick_28 ?_
  refine G_callVI (as := [vI t1, vI 1, vI 0]) (st := []) (c := 12) (bc2 := 0) (bs2 := 0) (pc := 29) dX12_thick_29 z_mX12_bad z_vX12_bad z_wX12_249 (gX12_bad hst fu s t0 t1 1 0) rfl rfl (by decide) rfl rfl ⟨by decide, by decide, by decide, by decide, Nat.le_of_ble_eq_true rfl⟩ rfl (fun x5 s4 => ?_)
  refine G_if_ne (tgt := 54) (pc := 32) dX12_thick_32 ?_ ?_
  · refine G_fg (lv2 := [vU, vU, vU]) ⟨Or.inl rfl, Or.inl rfl, Or.inl rfl, trivial⟩ ?_
    exact gX12_thick_J54 hst fu s4
  · refine G_aload_n (x := a0) (pc := 35) dX12_thick_35 rfl ?_
    refine G_iload_n (x := a2) (pc := 36) dX12_thick_36 rfl ?_
    refine G_iload_n (x := a1) (pc := 37) dX12_thick_37 rfl ?_
    refine G_icmp_ge (tgt := 45) (pc := 38) dX12_thick_38 ?_ ?_
    · refine G_iconst (pc := 45) dX12_thick_45 ?_
      exact gX12_thick_J46 hst fu s4 a0 a1 a2 a0 0
    · refine G_iconst (pc := 41) dX12_thick_41 ?_
      refine G_goto (tgt := 46) (pc := 42) dX12_thick_42 ?_
      exact gX12_thick_J46 hst fu s4 a0 a1 a2 a0 1
def fX12_thick_J22 (fu : Nat) (s : z_M) (a0 : Int) (a1 : Int) (a2 : Int) (t0 : Int) : z_O := fX12_thick_J27 fu s a0 a1 a2 t0 1
theorem gX12_thick_J22 {l : Launch} {K : z_K} (hst : l.stackTraces = false) (fu : Nat) (s : z_M) (a0 : Int) (a1 : Int) (a2 : Int) (t0 : Int) : G l K mX12_thick 12 271 0 0 22 [vR a0, vI a1, vI a2] [vR t0] s (fX12_thick_J22 fu s a0 a1 a2 t0) := by
  unfold fX12_thick_J22
  refine G_iconst (pc := 22) dX12_thick_22 ?_
  refine G_goto (tgt := 27) (pc := 23) dX12_thick_23 ?_
  exact gX12_thick_J27 hst fu s a0 a1 a2 t0 1
def fX12_thick (fu : Nat) (s : z_M) (a0 : Int) (a1 : Int) (a2 : Int) : z_O := if z_ob a0 12 then z_let (z_up s a0 0 0) (fun s1 => if z_ob a0 12 then z_bI (fX12_isLine fu s1 a0 a1) (fun x3 s2 => if (x3 : Int) = 0 then (fX12_thick_J22 fu s2 a0 a1 a2 a0) else (if z_ob a0 12 then z_bI (fX12_isLine fu s2 a0 a2) (fun x11 s10 => if (x11 : Int) ≠ 0 then (fX12_thick_J27 fu s10 a0 a1 a2 a0 0) else (fX12_thick_J22 fu s10 a0 a1 a2 a0)) else none)) else none) else none
theorem gX12_thick {l : Launch} {K : z_K} (hst : l.stackTraces = false) (fu : Nat) (s : z_M) (a0 : Int) (a1 : Int) (a2 : Int) : z_D l K mX12_thick 12 271 0 0 [vR a0, vI a1, vI a2] s (fX12_thick fu s a0 a1 a2) := by
  refine z_D_of (lv := [vR a0, vI a1, vI a2]) hst z_mX12_thick rfl ?_ (Nat.le_of_ble_eq_true rfl) rfl
  unfold fX12_thick
  refine G_aload_n (x := a0) (pc := 0) dX12_thick_0 rfl ?_
  refine G_iconst (pc := 1) dX12_thick_1 ?_
  refine G_putI (j := 0) (pc := 2) dX12_thick_2 rfl z_CLX12 (by decide) z_wX12_170 rfl (by decide) (by decide) (fun s1 => ?_)
  refine G_aload_n (x := a0) (pc := 5) dX12_thick_5 rfl ?_
  refine G_aload_n (x := a0) (pc := 6) dX12_thick_6 rfl ?_
  refine G_iload_n (x := a1) (pc := 7) dX12_thick_7 rfl ?_
  refine G_callVI (as := [vI a1]) (st := [vR a0]) (c := 12) (bc2 := 0) (bs2 := 0) (pc := 8) dX12_thick_8 z_mX12_isLine z_vX12_isLine z_wX12_414 (gX12_isLine hst fu s1 a0 a1) rfl rfl (by decide) rfl rfl ⟨by decide, by decide, by decide, by decide, Nat.le_of_ble_eq_true rfl⟩ rfl (fun x3 s2 => ?_)
  refine G_if_eq (tgt := 22) (pc := 11) dX12_thick_11 ?_ ?_
  · exact gX12_thick_J22 hst fu s2 a0 a1 a2 a0
  · refine G_aload_n (x := a0) (pc := 14) dX12_thick_14 rfl ?_
    refine G_iload_n (x := a2) (pc := 15) dX12_thick_15 rfl ?_
    refine G_callVI (as := [vI a2]) (st := [vR a0]) (c := 12) (bc2 := 0) (bs2 := 0) (pc := 16) dX12_thick_16 z_mX12_isLine z_vX12_isLine z_wX12_414 (gX12_isLine hst fu s2 a0 a2) rfl rfl (by decide) rfl rfl ⟨by decide, by decide, by decide, by decide, Nat.le_of_ble_eq_true rfl⟩ rfl (fun x11 s10 => ?_)
    refine G_if_ne (tgt := 26) (pc := 19) dX12_thick_19 ?_ ?_
    · refine G_iconst (pc := 26) dX12_thick_26 ?_
      exact gX12_thick_J27 hst fu s10 a0 a1 a2 a0 0
    · exact gX12_thick_J22 hst fu s10 a0 a1 a2 a0
def fX12_laysGutters_J59 (fu : Nat) (s : z_M) (a0 : Int) (a1 : Int) (t0 : Int) (t1 : Int) (t2 : Int) (r : z_M → Int → z_O) (k : z_M → z_O) : z_O := if z_ix t0 100 t1 then z_let (z_up s t0 t1 t2) (fun s10 => z_let (z_w (a1 + 1)) (fun x11 => r s10 x11)) else none
theorem gX12_laysGutters_J59 {l : Launch} {K : z_K} (hst : l.stackTraces = false) (fu : Nat) (s : z_M) (a0 : Int) (a1 : Int) (t0 : Int) (t1 : Int) (t2 : Int) (r : z_M → Int → z_O) (k : z_M → z_O) (hr : ∀ (s : z_M) (a1 : Int), G l K mX12_laysGutters 11 250 0 0 6 [vR a0, vI a1] [] s (r s a1)) (hk : ∀ (s : z_M), G l K mX12_laysGutters 11 250 0 0 66 [vU, vU] [] s (k s)) : G l K mX12_laysGutters 11 250 0 0 59 [vR a0, vI a1] [vI t2, vI t1, vR t0] s (fX12_laysGutters_J59 fu s a0 a1 t0 t1 t2 r k) := by
  unfold fX12_laysGutters_J59
  refine G_iast (pc := 59) dX12_laysGutters_59 (fun s10 => ?_)
  refine G_iinc (x := a1) (g := fun x11 => [vR a0, vI x11]) (pc := 60) dX12_laysGutters_60 rfl (fun _ => rfl) (fun x11 => ?_)
  refine G_goto (tgt := 6) (pc := 63) dX12_laysGutters_63 ?_
  exact hr s10 x11
def fX12_laysGutters_J38 (fu : Nat) (s : z_M) (a0 : Int) (a1 : Int) (t0 : Int) (t1 : Int) (t2 : Int) (r : z_M → Int → z_O) (k : z_M → z_O) : z_O := if z_ix t0 100 t1 then z_let (z_up s t0 t1 t2) (fun s6 => if z_ob a0 12 then z_let (z_gr a0 64) (fun x7 => if z_ob a0 12 then z_bI (fX12_sideOf fu s6 a0 a1 1) (fun x9 s8 => if (x9 : Int) ≤ 0 then (fX12_laysGutters_J59 fu s8 a0 a1 x7 a1 0 (fun w v1 => r w v1) k) else (fX12_laysGutters_J59 fu s8 a0 a1 x7 a1 6 (fun w v1 => r w v1) k)) else none) else none) else none
theorem gX12_laysGutters_J38 {l : Launch} {K : z_K} (hst : l.stackTraces = false) (fu : Nat) (s : z_M) (a0 : Int) (a1 : Int) (t0 : Int) (t1 : Int) (t2 : Int) (r : z_M → Int → z_O) (k : z_M → z_O) (hr : ∀ (s : z_M) (a1 : Int), G l K mX12_laysGutters 11 250 0 0 6 [vR a0, vI a1] [] s (r s a1)) (hk : ∀ (s : z_M), G l K mX12_laysGutters 11 250 0 0 66 [vU, vU] [] s (k s)) : G l K mX12_laysGutters 11 250 0 0 38 [vR a0, vI a1] [vI t2, vI t1, vR t0] s (fX12_laysGutters_J38 fu s a0 a1 t0 t1 t2 r k) := by
  unfold fX12_laysGutters_J38
  refine G_iast (pc := 38) dX12_laysGutters_38 (fun s6 => ?_)
  refine G_aload_n (x := a0) (pc := 39) dX12_laysGutters_39 rfl ?_
  refine G_getR (j := 64) (pc := 40) dX12_laysGutters_40 rfl z_CLX12 (by decide) z_wX12_161 (by decide) (fun x7 => ?_)
  refine G_iload_n (x := a1) (pc := 43) dX12_laysGutters_43 rfl ?_
  refine G_aload_n (x := a0) (pc := 44) dX12_laysGutters_44 rfl ?_
  refine G_iload_n (x := a1) (pc := 45) dX12_laysGutters_45 rfl ?_
  refine G_iconst (pc := 46) dX12_laysGutters_46 ?_
  refine G_callVI (as := [vI a1, vI 1]) (st := [vI a1, vR x7]) (c := 12) (bc2 := 0) (bs2 := 0) (pc := 47) dX12_laysGutters_47 z_mX12_sideOf z_vX12_sideOf z_wX12_417 (gX12_sideOf hst fu s6 a0 a1 1) rfl rfl (by decide) rfl rfl ⟨by decide, by decide, by decide, by decide, Nat.le_of_ble_eq_true rfl⟩ rfl (fun x9 s8 => ?_)
  refine G_if_le (tgt := 58) (pc := 50) dX12_laysGutters_50 ?_ ?_
  · refine G_iconst (pc := 58) dX12_laysGutters_58 ?_
    exact gX12_laysGutters_J59 hst fu s8 a0 a1 x7 a1 0 _ _ (fun w v1 => hr w v1) hk
  · refine G_bipush (pc := 53) dX12_laysGutters_53 ?_
    refine G_goto (tgt := 59) (pc := 55) dX12_laysGutters_55 ?_
    exact gX12_laysGutters_J59 hst fu s8 a0 a1 x7 a1 6 _ _ (fun w v1 => hr w v1) hk
def fX12_laysGutters_L6 (fu : Nat) (a0 : Int) : Nat → z_M → Int → (z_M → z_O) → z_O
  | 0, _, _, _ => none
  | F + 1, s, a1, k => if z_ob a0 12 then z_let (s a0 44) (fun x2 => if (x2 : Int) ≤ a1 then (k s) else (if z_ob a0 12 then z_let (z_gr a0 63) (fun x3 => z_let (z_w (a1 + 1)) (fun x4 => if z_ob a0 12 then z_let (s a0 44) (fun x5 => if (x5 : Int) ≤ x4 then (fX12_laysGutters_J38 fu s a0 a1 x3 a1 0 (fun w v1 => fX12_laysGutters_L6 fu a0 F w v1 k) k) else (if z_ob a0 12 then z_bI (fX12_gutterOf fu s a0 a1) (fun x13 s12 => fX12_laysGutters_J38 fu s12 a0 a1 x3 a1 x13 (fun w v1 => fX12_laysGutters_L6 fu a0 F w v1 k) k) else none)) else none)) else none)) else none
theorem gX12_laysGutters_L6 {l : Launch} {K : z_K} (hst : l.stackTraces = false) (fu : Nat) (a0 : Int) (k : z_M → z_O) (hk : ∀ (s : z_M), G l K mX12_laysGutters 11 250 0 0 66 [vU, vU] [] s (k s)) : ∀ (F : Nat) (s : z_M) (a1 : Int), G l K mX12_laysGutters 11 250 0 0 6 [vR a0, vI a1] [] s (fX12_laysGutters_L6 fu a0 F s a1 k) := by
  intro F
  induction F with
  | zero => exact fun s a1 h => absurd rfl h
  | succ F ih =>
    intro s a1
    rw [fX12_laysGutters_L6]
    refine G_iload_n (x := a1) (pc := 6) dX12_laysGutters_6 rfl ?_
    refine G_aload_n (x := a0) (pc := 7) dX12_laysGutters_7 rfl ?_
    refine G_getI (j := 44) (pc := 8) dX12_laysGutters_8 rfl z_CLX12 (by decide) z_wX12_365 (by decide) (fun x2 => ?_)
    refine G_icmp_ge (tgt := 66) (pc := 11) dX12_laysGutters_11 ?_ ?_
    · refine G_fg (lv2 := [vU, vU]) ⟨Or.inl rfl, Or.inl rfl, trivial⟩ ?_
      exact hk s
    · refine G_aload_n (x := a0) (pc := 14) dX12_laysGutters_14 rfl ?_
      refine G_getR (j := 63) (pc := 15) dX12_laysGutters_15 rfl z_CLX12 (by decide) z_wX12_158 (by decide) (fun x3 => ?_)
      refine G_iload_n (x := a1) (pc := 18) dX12_laysGutters_18 rfl ?_
      refine G_iload_n (x := a1) (pc := 19) dX12_laysGutters_19 rfl ?_
      refine G_iconst (pc := 20) dX12_laysGutters_20 ?_
      refine G_iadd (pc := 21) dX12_laysGutters_21 (fun x4 => ?_)
      refine G_aload_n (x := a0) (pc := 22) dX12_laysGutters_22 rfl ?_
      refine G_getI (j := 44) (pc := 23) dX12_laysGutters_23 rfl z_CLX12 (by decide) z_wX12_365 (by decide) (fun x5 => ?_)
      refine G_icmp_ge (tgt := 37) (pc := 26) dX12_laysGutters_26 ?_ ?_
      · refine G_iconst (pc := 37) dX12_laysGutters_37 ?_
        exact gX12_laysGutters_J38 hst fu s a0 a1 x3 a1 0 _ _ (fun w v1 => ih w v1) hk
      · refine G_aload_n (x := a0) (pc := 29) dX12_laysGutters_29 rfl ?_
        refine G_iload_n (x := a1) (pc := 30) dX12_laysGutters_30 rfl ?_
        refine G_callVI (as := [vI a1]) (st := [vI a1, vR x3]) (c := 12) (bc2 := 0) (bs2 := 0) (pc := 31) dX12_laysGutters_31 z_mX12_gutterOf z_vX12_gutterOf z_wX12_423 (gX12_gutterOf hst fu s a0 a1) rfl rfl (by decide) rfl rfl ⟨by decide, by decide, by decide, by decide, Nat.le_of_ble_eq_true rfl⟩ rfl (fun x13 s12 => ?_)
        refine G_goto (tgt := 38) (pc := 34) dX12_laysGutters_34 ?_
        exact gX12_laysGutters_J38 hst fu s12 a0 a1 x3 a1 x13 _ _ (fun w v1 => ih w v1) hk
def fX12_laysGutters (fu : Nat) (s : z_M) (a0 : Int) : z_O := if z_ob a0 12 then z_bN (fX12_laysAll fu s a0) (fun s1 => fX12_laysGutters_L6 fu a0 fu s1 0 (fun s14 => some (vN, s14))) else none
theorem gX12_laysGutters {l : Launch} {K : z_K} (hst : l.stackTraces = false) (fu : Nat) (s : z_M) (a0 : Int) : z_D l K mX12_laysGutters 11 250 0 0 [vR a0] s (fX12_laysGutters fu s a0) := by
  refine z_D_of (lv := [vR a0, vU]) hst z_mX12_laysGutters rfl ?_ (Nat.le_of_ble_eq_true rfl) rfl
  unfold fX12_laysGutters
  refine G_aload_n (x := a0) (pc := 0) dX12_laysGutters_0 rfl ?_
  refine G_callVN (as := []) (st := []) (c := 12) (bc2 := 0) (bs2 := 0) (pc := 1) dX12_laysGutters_1 z_mX12_laysAll z_vX12_laysAll z_wX12_371 (gX12_laysAll hst fu s a0) rfl rfl (by decide) rfl rfl ⟨by decide, by decide, by decide, by decide, Nat.le_of_ble_eq_true rfl⟩ rfl (fun s1 => ?_)
  refine G_iconst (pc := 4) dX12_laysGutters_4 ?_
  refine G_istore_n (lv' := [vR a0, vI 0]) (pc := 5) dX12_laysGutters_5 rfl ?_
  refine gX12_laysGutters_L6 hst fu a0 _ (fun s14 => ?_) fu s1 0
  exact G_vret (pc := 66) dX12_laysGutters_66
def fX12_pagesBy_L45 (fu : Nat) (a0 : Int) (a1 : Int) (a2 : Int) : Nat → z_M → Int → Int → (z_M → Int → z_O) → z_O
  | 0, _, _, _, _ => none
  | F + 1, s, a3, a4, k => if z_ob a0 12 then z_let (s a0 44) (fun x9 => if (x9 : Int) ≤ a3 then (k s a3) else (if z_ob a0 12 then z_let (z_gr a0 63) (fun x10 => z_let (z_w (a3 - 1)) (fun x11 => if z_ix x10 100 x11 then z_let (s x10 x11) (fun x12 => z_let (z_w (a4 + x12)) (fun x13 => z_let (z_w (x13 + 12)) (fun x14 => if z_ob a0 12 then z_let (z_gr a0 64) (fun x15 => if z_ix x15 100 a3 then z_let (s x15 a3) (fun x16 => z_let (z_w (x14 + x16)) (fun x17 => if (a1 : Int) < x17 then (k s a3) else (if z_ob a0 12 then z_let (z_gr a0 63) (fun x18 => z_let (z_w (a3 - 1)) (fun x19 => if z_ix x18 100 x19 then z_let (s x18 x19) (fun x20 => z_let (z_w (x20 + 12)) (fun x21 => z_let (z_w (a4 + x21)) (fun x22 => z_let (z_w (a3 + 1)) (fun x23 => fX12_pagesBy_L45 fu a0 a1 a2 F s x23 x22 k)))) else none)) else none))) else none) else none))) else none)) else none)) else none
theorem gX12_pagesBy_L45 {l : Launch} {K : z_K} (hst : l.stackTraces = false) (fu : Nat) (a0 : Int) (a1 : Int) (a2 : Int) (k : z_M → Int → z_O) (hk : ∀ (s : z_M) (a3 : Int), G l K mX12_pagesBy 6 142 0 0 100 [vR a0, vI a1, vI a2, vI a3, vU] [] s (k s a3)) : ∀ (F : Nat) (s : z_M) (a3 : Int) (a4 : Int), G l K mX12_pagesBy 6 142 0 0 45 [vR a0, vI a1, vI a2, vI a3, vI a4] [] s (fX12_pagesBy_L45 fu a0 a1 a2 F s a3 a4 k) := by
  intro F
  induction F with
  | zero => exact fun s a3 a4 h => absurd rfl h
  | succ F ih =>
    intro s a3 a4
    rw [fX12_pagesBy_L45]
    refine G_iload_n (x := a3) (pc := 45) dX12_pagesBy_45 rfl ?_
    refine G_aload_n (x := a0) (pc := 46) dX12_pagesBy_46 rfl ?_
    refine G_getI (j := 44) (pc := 47) dX12_pagesBy_47 rfl z_CLX12 (by decide) z_wX12_365 (by decide) (fun x9 => ?_)
    refine G_icmp_ge (tgt := 100) (pc := 50) dX12_pagesBy_50 ?_ ?_
    · refine G_fg (lv2 := [vR a0, vI a1, vI a2, vI a3, vU]) ⟨Or.inr rfl, Or.inr rfl, Or.inr rfl, Or.inr rfl, Or.inl rfl, trivial⟩ ?_
      exact hk s a3
    · refine G_iload (x := a4) (pc := 53) dX12_pagesBy_53 rfl ?_
      refine G_aload_n (x := a0) (pc := 55) dX12_pagesBy_55 rfl ?_
      refine G_getR (j := 63) (pc := 56) dX12_pagesBy_56 rfl z_CLX12 (by decide) z_wX12_158 (by decide) (fun x10 => ?_)
      refine G_iload_n (x := a3) (pc := 59) dX12_pagesBy_59 rfl ?_
      refine G_iconst (pc := 60) dX12_pagesBy_60 ?_
      refine G_isub (pc := 61) dX12_pagesBy_61 (fun x11 => ?_)
      refine G_iald (pc := 62) dX12_pagesBy_62 (fun x12 => ?_)
      refine G_iadd (pc := 63) dX12_pagesBy_63 (fun x13 => ?_)
      refine G_bipush (pc := 64) dX12_pagesBy_64 ?_
      refine G_iadd (pc := 66) dX12_pagesBy_66 (fun x14 => ?_)
      refine G_aload_n (x := a0) (pc := 67) dX12_pagesBy_67 rfl ?_
      refine G_getR (j := 64) (pc := 68) dX12_pagesBy_68 rfl z_CLX12 (by decide) z_wX12_161 (by decide) (fun x15 => ?_)
      refine G_iload_n (x := a3) (pc := 71) dX12_pagesBy_71 rfl ?_
      refine G_iald (pc := 72) dX12_pagesBy_72 (fun x16 => ?_)
      refine G_iadd (pc := 73) dX12_pagesBy_73 (fun x17 => ?_)
      refine G_iload_n (x := a1) (pc := 74) dX12_pagesBy_74 rfl ?_
      refine G_icmp_gt (tgt := 100) (pc := 75) dX12_pagesBy_75 ?_ ?_
      · refine G_fg (lv2 := [vR a0, vI a1, vI a2, vI a3, vU]) ⟨Or.inr rfl, Or.inr rfl, Or.inr rfl, Or.inr rfl, Or.inl rfl, trivial⟩ ?_
        exact hk s a3
      · refine G_iload (x := a4) (pc := 78) dX12_pagesBy_78 rfl ?_
        refine G_aload_n (x := a0) (pc := 80) dX12_pagesBy_80 rfl ?_
        refine G_getR (j := 63) (pc := 81) dX12_pagesBy_81 rfl z_CLX12 (by decide) z_wX12_158 (by decide) (fun x18 => ?_)
        refine G_iload_n (x := a3) (pc := 84) dX12_pagesBy_84 rfl ?_
        refine G_iconst (pc := 85) dX12_pagesBy_85 ?_
        refine G_isub (pc := 86) dX12_pagesBy_86 (fun x19 => ?_)
        refine G_iald (pc := 87) dX12_pagesBy_87 (fun x20 => ?_)
        refine G_bipush (pc := 88) dX12_pagesBy_88 ?_
        refine G_iadd (pc := 90) dX12_pagesBy_90 (fun x21 => ?_)
        refine G_iadd (pc := 91) dX12_pagesBy_91 (fun x22 => ?_)
        refine G_istore (lv' := [vR a0, vI a1, vI a2, vI a3, vI x22]) (pc := 92) dX12_pagesBy_92 rfl ?_
        refine G_iinc (x := a3) (g := fun x23 => [vR a0, vI a1, vI a2, vI x23, vI x22]) (pc := 94) dX12_pagesBy_94 rfl (fun _ => rfl) (fun x23 => ?_)
        refine G_goto (tgt := 45) (pc := 97) dX12_pagesBy_97 ?_
        exact ih s x23 x22
def fX12_pagesBy_J100 (fu : Nat) (s : z_M) (a0 : Int) (a1 : Int) (a2 : Int) (a3 : Int) (r : z_M → Int → Int → z_O) (k : z_M → Int → z_O) : z_O := r s a2 a3
theorem gX12_pagesBy_J100 {l : Launch} {K : z_K} (hst : l.stackTraces = false) (fu : Nat) (s : z_M) (a0 : Int) (a1 : Int) (a2 : Int) (a3 : Int) (r : z_M → Int → Int → z_O) (k : z_M → Int → z_O) (hr : ∀ (s : z_M) (a2 : Int) (a3 : Int), G l K mX12_pagesBy 6 142 0 0 4 [vR a0, vI a1, vI a2, vI a3, vU] [] s (r s a2 a3)) (hk : ∀ (s : z_M) (a2 : Int), G l K mX12_pagesBy 6 142 0 0 103 [vR a0, vU, vI a2, vU, vU] [] s (k s a2)) : G l K mX12_pagesBy 6 142 0 0 100 [vR a0, vI a1, vI a2, vI a3, vU] [] s (fX12_pagesBy_J100 fu s a0 a1 a2 a3 r k) := by
  unfold fX12_pagesBy_J100
  refine G_goto (tgt := 4) (pc := 100) dX12_pagesBy_100 ?_
  exact hr s a2 a3
def fX12_pagesBy_J37 (fu : Nat) (s : z_M) (a0 : Int) (a1 : Int) (a2 : Int) (a3 : Int) (t0 : Int) (r : z_M → Int → Int → z_O) (k : z_M → Int → z_O) : z_O := z_let (z_w (t0 + 12)) (fun x7 => z_let (z_w (a3 + 1)) (fun x8 => fX12_pagesBy_L45 fu a0 a1 a2 fu s x8 x7 (fun s24 x25 => fX12_pagesBy_J100 fu s24 a0 a1 a2 x25 (fun w v2 v3 => r w v2 v3) k)))
theorem gX12_pagesBy_J37 {l : Launch} {K : z_K} (hst : l.stackTraces = false) (fu : Nat) (s : z_M) (a0 : Int) (a1 : Int) (a2 : Int) (a3 : Int) (t0 : Int) (r : z_M → Int → Int → z_O) (k : z_M → Int → z_O) (hr : ∀ (s : z_M) (a2 : Int) (a3 : Int), G l K mX12_pagesBy 6 142 0 0 4 [vR a0, vI a1, vI a2, vI a3, vU] [] s (r s a2 a3)) (hk : ∀ (s : z_M) (a2 : Int), G l K mX12_pagesBy 6 142 0 0 103 [vR a0, vU, vI a2, vU, vU] [] s (k s a2)) : G l K mX12_pagesBy 6 142 0 0 37 [vR a0, vI a1, vI a2, vI a3, vU] [vI t0] s (fX12_pagesBy_J37 fu s a0 a1 a2 a3 t0 r k) := by
  unfold fX12_pagesBy_J37
  refine G_bipush (pc := 37) dX12_pagesBy_37 ?_
  refine G_iadd (pc := 39) dX12_pagesBy_39 (fun x7 => ?_)
  refine G_istore (lv' := [vR a0, vI a1, vI a2, vI a3, vI x7]) (pc := 40) dX12_pagesBy_40 rfl ?_
  refine G_iinc (x := a3) (g := fun x8 => [vR a0, vI a1, vI a2, vI x8, vI x7]) (pc := 42) dX12_pagesBy_42 rfl (fun _ => rfl) (fun x8 => ?_)
  refine gX12_pagesBy_L45 hst fu a0 a1 a2 _ (fun s24 x25 => ?_) fu s x8 x7
  exact gX12_pagesBy_J100 hst fu s24 a0 a1 a2 x25 _ _ (fun w v2 v3 => hr w v2 v3) hk
def fX12_pagesBy_L4 (fu : Nat) (a0 : Int) (a1 : Int) : Nat → z_M → Int → Int → (z_M → Int → z_O) → z_O
  | 0, _, _, _, _ => none
  | F + 1, s, a2, a3, k => if z_ob a0 12 then z_let (s a0 44) (fun x1 => if (x1 : Int) ≤ a3 then (k s a2) else (if z_ob a0 12 then z_let (z_gr a0 62) (fun x2 => if z_ix x2 100 a2 then z_let (z_up s x2 a2 a3) (fun s3 => z_let (z_w (a2 + 1)) (fun x4 => if z_ob a0 12 then z_bI (fX12_sideOf fu s3 a0 a3 0) (fun x6 s5 => if (x6 : Int) ≤ 0 then (fX12_pagesBy_J37 fu s5 a0 a1 x4 a3 0 (fun w v2 v3 => fX12_pagesBy_L4 fu a0 a1 F w v2 v3 k) k) else (fX12_pagesBy_J37 fu s5 a0 a1 x4 a3 6 (fun w v2 v3 => fX12_pagesBy_L4 fu a0 a1 F w v2 v3 k) k)) else none)) else none) else none)) else none
theorem gX12_pagesBy_L4 {l : Launch} {K : z_K} (hst : l.stackTraces = false) (fu : Nat) (a0 : Int) (a1 : Int) (k : z_M → Int → z_O) (hk : ∀ (s : z_M) (a2 : Int), G l K mX12_pagesBy 6 142 0 0 103 [vR a0, vU, vI a2, vU, vU] [] s (k s a2)) : ∀ (F : Nat) (s : z_M) (a2 : Int) (a3 : Int), G l K mX12_pagesBy 6 142 0 0 4 [vR a0, vI a1, vI a2, vI a3, vU] [] s (fX12_pagesBy_L4 fu a0 a1 F s a2 a3 k) := by
  intro F
  induction F with
  | zero => exact fun s a2 a3 h => absurd rfl h
  | succ F ih =>
    intro s a2 a3
    rw [fX12_pagesBy_L4]
    refine G_iload_n (x := a3) (pc := 4) dX12_pagesBy_4 rfl ?_
    refine G_aload_n (x := a0) (pc := 5) dX12_pagesBy_5 rfl ?_
    refine G_getI (j := 44) (pc := 6) dX12_pagesBy_6 rfl z_CLX12 (by decide) z_wX12_365 (by decide) (fun x1 => ?_)
    refine G_icmp_ge (tgt := 103) (pc := 9) dX12_pagesBy_9 ?_ ?_
    · refine G_fg (lv2 := [vR a0, vU, vI a2, vU, vU]) ⟨Or.inr rfl, Or.inl rfl, Or.inr rfl, Or.inl rfl, Or.inl rfl, trivial⟩ ?_
      exact hk s a2
    · refine G_aload_n (x := a0) (pc := 12) dX12_pagesBy_12 rfl ?_
      refine G_getR (j := 62) (pc := 13) dX12_pagesBy_13 rfl z_CLX12 (by decide) z_wX12_155 (by decide) (fun x2 => ?_)
      refine G_iload_n (x := a2) (pc := 16) dX12_pagesBy_16 rfl ?_
      refine G_iload_n (x := a3) (pc := 17) dX12_pagesBy_17 rfl ?_
      refine G_iast (pc := 18) dX12_pagesBy_18 (fun s3 => ?_)
      refine G_iinc (x := a2) (g := fun x4 => [vR a0, vI a1, vI x4, vI a3, vU]) (pc := 19) dX12_pagesBy_19 rfl (fun _ => rfl) (fun x4 => ?_)
      refine G_aload_n (x := a0) (pc := 22) dX12_pagesBy_22 rfl ?_
      refine G_iload_n (x := a3) (pc := 23) dX12_pagesBy_23 rfl ?_
      refine G_iconst (pc := 24) dX12_pagesBy_24 ?_
      refine G_callVI (as := [vI a3, vI 0]) (st := []) (c := 12) (bc2 := 0) (bs2 := 0) (pc := 25) dX12_pagesBy_25 z_mX12_sideOf z_vX12_sideOf z_wX12_417 (gX12_sideOf hst fu s3 a0 a3 0) rfl rfl (by decide) rfl rfl ⟨by decide, by decide, by decide, by decide, Nat.le_of_ble_eq_true rfl⟩ rfl (fun x6 s5 => ?_)
      refine G_if_le (tgt := 36) (pc := 28) dX12_pagesBy_28 ?_ ?_
      · refine G_iconst (pc := 36) dX12_pagesBy_36 ?_
        exact gX12_pagesBy_J37 hst fu s5 a0 a1 x4 a3 0 _ _ (fun w v2 v3 => ih w v2 v3) hk
      · refine G_bipush (pc := 31) dX12_pagesBy_31 ?_
        refine G_goto (tgt := 37) (pc := 33) dX12_pagesBy_33 ?_
        exact gX12_pagesBy_J37 hst fu s5 a0 a1 x4 a3 6 _ _ (fun w v2 v3 => ih w v2 v3) hk
def fX12_pagesBy (fu : Nat) (s : z_M) (a0 : Int) (a1 : Int) : z_O := fX12_pagesBy_L4 fu a0 a1 fu s 0 0 (fun s26 x27 => if z_ob a0 12 then z_let (z_gr a0 62) (fun x28 => if z_ob a0 12 then z_let (s26 a0 44) (fun x29 => if z_ix x28 100 x27 then z_let (z_up s26 x28 x27 x29) (fun s30 => some (vI x27, s30)) else none) else none) else none)
theorem gX12_pagesBy {l : Launch} {K : z_K} (hst : l.stackTraces = false) (fu : Nat) (s : z_M) (a0 : Int) (a1 : Int) : z_D l K mX12_pagesBy 6 142 0 0 [vR a0, vI a1] s (fX12_pagesBy fu s a0 a1) := by
  refine z_D_of (lv := [vR a0, vI a1, vU, vU, vU]) hst z_mX12_pagesBy rfl ?_ (Nat.le_of_ble_eq_true rfl) rfl
  unfold fX12_pagesBy
  refine G_iconst (pc := 0) dX12_pagesBy_0 ?_
  refine G_istore_n (lv' := [vR a0, vI a1, vI 0, vU, vU]) (pc := 1) dX12_pagesBy_1 rfl ?_
  refine G_iconst (pc := 2) dX12_pagesBy_2 ?_
  refine G_istore_n (lv' := [vR a0, vI a1, vI 0, vI 0, vU]) (pc := 3) dX12_pagesBy_3 rfl ?_
  refine gX12_pagesBy_L4 hst fu a0 a1 _ (fun s26 x27 => ?_) fu s 0 0
  refine G_aload_n (x := a0) (pc := 103) dX12_pagesBy_103 rfl ?_
  refine G_getR (j := 62) (pc := 104) dX12_pagesBy_104 rfl z_CLX12 (by decide) z_wX12_155 (by decide) (fun x28 => ?_)
  refine G_iload_n (x := x27) (pc := 107) dX12_pagesBy_107 rfl ?_
  refine G_aload_n (x := a0) (pc := 108) dX12_pagesBy_108 rfl ?_
  refine G_getI (j := 44) (pc := 109) dX12_pagesBy_109 rfl z_CLX12 (by decide) z_wX12_365 (by decide) (fun x29 => ?_)
  refine G_iast (pc := 112) dX12_pagesBy_112 (fun s30 => ?_)
  refine G_iload_n (x := x27) (pc := 113) dX12_pagesBy_113 rfl ?_
  exact G_iret (pc := 114) dX12_pagesBy_114
def fX12_pages_J23 (fu : Nat) (s : z_M) (a0 : Int) (a1 : Int) (t0 : Int) (t1 : Int) : z_O := if z_ob t0 12 then z_bI (fX12_bad fu s t0 t1 1 1) (fun x5 s4 => if (x5 : Int) = 0 then (if z_ob a0 12 then z_bN (fX12_laysGutters fu s4 a0) (fun s6 => if z_ob a0 12 then z_bI (fX12_pagesBy fu s6 a0 a1) (fun x8 s7 => some (vI x8, s7)) else none) else none) else (some (vI 0, s4))) else none
theorem gX12_pages_J23 {l : Launch} {K : z_K} (hst : l.stackTraces = false) (fu : Nat) (s : z_M) (a0 : Int) (a1 : Int) (t0 : Int) (t1 : Int) : G l K mX12_pages 12 271 0 0 23 [vR a0, vI a1] [vI t1, vR t0] s (fX12_pages_J23 fu s a0 a1 t0 t1) := by
  unfold fX12_pages_J23
  refine G_iconst (pc := 23) dX12_pages_23 ?_
  refine G_iconst (pc := 24) dX12_pages_24 ?_
  refine G_callVI (as := [vI t1, vI 1, vI 1]) (st := []) (c := 12) (bc2 := 0) (bs2 := 0) (pc := 25) dX12_pages_25 z_mX12_bad z_vX12_bad z_wX12_249 (gX12_bad hst fu s t0 t1 1 1) rfl rfl (by decide) rfl rfl ⟨by decide, by decide, by decide, by decide, Nat.le_of_ble_eq_true rfl⟩ rfl (fun x5 s4 => ?_)
  refine G_if_eq (tgt := 33) (pc := 28) dX12_pages_28 ?_ ?_
  · refine G_aload_n (x := a0) (pc := 33) dX12_pages_33 rfl ?_
    refine G_callVN (as := []) (st := []) (c := 12) (bc2 := 0) (bs2 := 0) (pc := 34) dX12_pages_34 z_mX12_laysGutters z_vX12_laysGutters z_wX12_429 (gX12_laysGutters hst fu s4 a0) rfl rfl (by decide) rfl rfl ⟨by decide, by decide, by decide, by decide, Nat.le_of_ble_eq_true rfl⟩ rfl (fun s6 => ?_)
    refine G_aload_n (x := a0) (pc := 37) dX12_pages_37 rfl ?_
    refine G_iload_n (x := a1) (pc := 38) dX12_pages_38 rfl ?_
    refine G_callVI (as := [vI a1]) (st := []) (c := 12) (bc2 := 0) (bs2 := 0) (pc := 39) dX12_pages_39 z_mX12_pagesBy z_vX12_pagesBy z_wX12_432 (gX12_pagesBy hst fu s6 a0 a1) rfl rfl (by decide) rfl rfl ⟨by decide, by decide, by decide, by decide, Nat.le_of_ble_eq_true rfl⟩ rfl (fun x8 s7 => ?_)
    exact G_iret (pc := 42) dX12_pages_42
  · refine G_iconst (pc := 31) dX12_pages_31 ?_
    exact G_iret (pc := 32) dX12_pages_32
def fX12_pages (fu : Nat) (s : z_M) (a0 : Int) (a1 : Int) : z_O := if z_ob a0 12 then z_let (z_up s a0 0 0) (fun s1 => z_bI (fX12_in fu s1 a1 12 9999) (fun x3 s2 => if (x3 : Int) ≠ 0 then (fX12_pages_J23 fu s2 a0 a1 a0 0) else (fX12_pages_J23 fu s2 a0 a1 a0 1))) else none
theorem gX12_pages {l : Launch} {K : z_K} (hst : l.stackTraces = false) (fu : Nat) (s : z_M) (a0 : Int) (a1 : Int) : z_D l K mX12_pages 12 271 0 0 [vR a0, vI a1] s (fX12_pages fu s a0 a1) := by
  refine z_D_of (lv := [vR a0, vI a1]) hst z_mX12_pages rfl ?_ (Nat.le_of_ble_eq_true rfl) rfl
  unfold fX12_pages
  refine G_aload_n (x := a0) (pc := 0) dX12_pages_0 rfl ?_
  refine G_iconst (pc := 1) dX12_pages_1 ?_
  refine G_putI (j := 0) (pc := 2) dX12_pages_2 rfl z_CLX12 (by decide) z_wX12_170 rfl (by decide) (by decide) (fun s1 => ?_)
  refine G_aload_n (x := a0) (pc := 5) dX12_pages_5 rfl ?_
  refine G_iload_n (x := a1) (pc := 6) dX12_pages_6 rfl ?_
  refine G_bipush (pc := 7) dX12_pages_7 ?_
  refine G_sipush (pc := 9) dX12_pages_9 ?_
  refine G_callSI (as := [vI a1, vI 12, vI 9999]) (st := [vR a0]) (bc2 := 0) (bs2 := 0) (pc := 12) dX12_pages_12 z_mX12_in z_sX12_in z_wX12_245 (gX12_in hst fu s1 a1 12 9999) rfl rfl ⟨by decide, by decide, by decide, by decide, Nat.le_of_ble_eq_true rfl⟩ rfl (fun x3 s2 => ?_)
  refine G_if_ne (tgt := 22) (pc := 15) dX12_pages_15 ?_ ?_
  · refine G_iconst (pc := 22) dX12_pages_22 ?_
    exact gX12_pages_J23 hst fu s2 a0 a1 a0 0
  · refine G_iconst (pc := 18) dX12_pages_18 ?_
    refine G_goto (tgt := 23) (pc := 19) dX12_pages_19 ?_
    exact gX12_pages_J23 hst fu s2 a0 a1 a0 1
def fX12_page_J119 (fu : Nat) (s : z_M) (t0 : Int) : z_O := some (vI t0, s)
theorem gX12_page_J119 {l : Launch} {K : z_K} (hst : l.stackTraces = false) (fu : Nat) (s : z_M) (t0 : Int) : G l K mX12_page 12 271 0 0 119 [vU, vU, vU, vU] [vI t0] s (fX12_page_J119 fu s t0) := by
  unfold fX12_page_J119
  exact G_iret (pc := 119) dX12_page_119
def fX12_page_J32 (fu : Nat) (s : z_M) (a0 : Int) (a1 : Int) (a2 : Int) (a3 : Int) (t0 : Int) (t1 : Int) : z_O := if z_ob t0 12 then z_bI (fX12_bad fu s t0 t1 1 1) (fun x5 s4 => if (x5 : Int) = 0 then (if z_ob a0 12 then z_bN (fX12_laysGutters fu s4 a0) (fun s6 => if z_ob a0 12 then z_bI (fX12_pagesBy fu s6 a0 a1) (fun x8 s7 => z_let (z_w (x8 - 1)) (fun x9 => z_bI (fX12_in fu s7 a2 0 x9) (fun x11 s10 => if (x11 : Int) ≠ 0 then (if (a3 : Int) ≠ 0 then (if (a3 : Int) ≠ 1 then (if z_ob a0 12 then z_let (z_gr a0 62) (fun x12 => if z_ix x12 100 a2 then z_let (s10 x12 a2) (fun x13 => if z_ob a0 12 then z_let (z_gr a0 62) (fun x14 => z_let (z_w (a2 + 1)) (fun x15 => if z_ix x14 100 x15 then z_let (s10 x14 x15) (fun x16 => z_let (z_w (x16 - 1)) (fun x17 => if z_ob a0 12 then z_bI (fX12_thickOf fu s10 a0 x13 x17) (fun x19 s18 => fX12_page_J119 fu s18 x19) else none)) else none)) else none) else none) else none) else (if z_ob a0 12 then z_let (z_gr a0 62) (fun x20 => z_let (z_w (a2 + 1)) (fun x21 => if z_ix x20 100 x21 then z_let (s10 x20 x21) (fun x22 => if z_ob a0 12 then z_let (z_gr a0 62) (fun x23 => if z_ix x23 100 a2 then z_let (s10 x23 a2) (fun x24 => z_let (z_w (x22 - x24)) (fun x25 => fX12_page_J119 fu s10 x25)) else none) else none) else none)) else none)) else (if z_ob a0 12 then z_let (z_gr a0 62) (fun x26 => if z_ix x26 100 a2 then z_let (s10 x26 a2) (fun x27 => fX12_page_J119 fu s10 x27) else none) else none)) else (some (vI (-1), s10))))) else none) else none) else (some (vI 0, s4))) else none
theorem gX12_page_J32 {l : Launch} {K : z_K} (hst : l.stackTraces = false) (fu : Nat) (s : z_M) (a0 : Int) (a1 : Int) (a2 : Int) (a3 : Int) (t0 : Int) (t1 : Int) : G l K mX12_page 12 271 0 0 32 [vR a0, vI a1, vI a2, vI a3] [vI t1, vR t0] s (fX12_page_J32 fu s a0 a1 a2 a3 t0 t1) := by
  unfold fX12_page_J32
  refine G_iconst (pc := 32) dX12_page_32 ?_
  refine G_iconst (pc := 33) dX12_page_33 ?_
  refine G_callVI (as := [vI t1, vI 1, vI 1]) (st := []) (c := 12) (bc2 := 0) (bs2 := 0) (pc := 34) dX12_page_34 z_mX12_bad z_vX12_bad z_wX12_249 (gX12_bad hst fu s t0 t1 1 1) rfl rfl (by decide) rfl rfl ⟨by decide, by decide, by decide, by decide, Nat.le_of_ble_eq_true rfl⟩ rfl (fun x5 s4 => ?_)
  refine G_if_eq (tgt := 42) (pc := 37) dX12_page_37 ?_ ?_
  · refine G_aload_n (x := a0) (pc := 42) dX12_page_42 rfl ?_
    refine G_callVN (as := []) (st := []) (c := 12) (bc2 := 0) (bs2 := 0) (pc := 43) dX12_page_43 z_mX12_laysGutters z_vX12_laysGutters z_wX12_429 (gX12_laysGutters hst fu s4 a0) rfl rfl (by decide) rfl rfl ⟨by decide, by decide, by decide, by decide, Nat.le_of_ble_eq_true rfl⟩ rfl (fun s6 => ?_)
    refine G_iload_n (x := a2) (pc := 46) dX12_page_46 rfl ?_
    refine G_iconst (pc := 47) dX12_page_47 ?_
    refine G_aload_n (x := a0) (pc := 48) dX12_page_48 rfl ?_
    refine G_iload_n (x := a1) (pc := 49) dX12_page_49 rfl ?_
    refine G_callVI (as := [vI a1]) (st := [vI 0, vI a2]) (c := 12) (bc2 := 0) (bs2 := 0) (pc := 50) dX12_page_50 z_mX12_pagesBy z_vX12_pagesBy z_wX12_432 (gX12_pagesBy hst fu s6 a0 a1) rfl rfl (by decide) rfl rfl ⟨by decide, by decide, by decide, by decide, Nat.le_of_ble_eq_true rfl⟩ rfl (fun x8 s7 => ?_)
    refine G_iconst (pc := 53) dX12_page_53 ?_
    refine G_isub (pc := 54) dX12_page_54 (fun x9 => ?_)
    refine G_callSI (as := [vI a2, vI 0, vI x9]) (st := []) (bc2 := 0) (bs2 := 0) (pc := 55) dX12_page_55 z_mX12_in z_sX12_in z_wX12_245 (gX12_in hst fu s7 a2 0 x9) rfl rfl ⟨by decide, by decide, by decide, by decide, Nat.le_of_ble_eq_true rfl⟩ rfl (fun x11 s10 => ?_)
    refine G_if_ne (tgt := 63) (pc := 58) dX12_page_58 ?_ ?_
    · refine G_iload_n (x := a3) (pc := 63) dX12_page_63 rfl ?_
      refine G_if_ne (tgt := 76) (pc := 64) dX12_page_64 ?_ ?_
      · refine G_iload_n (x := a3) (pc := 76) dX12_page_76 rfl ?_
        refine G_iconst (pc := 77) dX12_page_77 ?_
        refine G_icmp_ne (tgt := 99) (pc := 78) dX12_page_78 ?_ ?_
        · refine G_aload_n (x := a0) (pc := 99) dX12_page_99 rfl ?_
          refine G_aload_n (x := a0) (pc := 100) dX12_page_100 rfl ?_
          refine G_getR (j := 62) (pc := 101) dX12_page_101 rfl z_CLX12 (by decide) z_wX12_155 (by decide) (fun x12 => ?_)
          refine G_iload_n (x := a2) (pc := 104) dX12_page_104 rfl ?_
          refine G_iald (pc := 105) dX12_page_105 (fun x13 => ?_)
          refine G_aload_n (x := a0) (pc := 106) dX12_page_106 rfl ?_
          refine G_getR (j := 62) (pc := 107) dX12_page_107 rfl z_CLX12 (by decide) z_wX12_155 (by decide) (fun x14 => ?_)
          refine G_iload_n (x := a2) (pc := 110) dX12_page_110 rfl ?_
          refine G_iconst (pc := 111) dX12_page_111 ?_
          refine G_iadd (pc := 112) dX12_page_112 (fun x15 => ?_)
          refine G_iald (pc := 113) dX12_page_113 (fun x16 => ?_)
          refine G_iconst (pc := 114) dX12_page_114 ?_
          refine G_isub (pc := 115) dX12_page_115 (fun x17 => ?_)
          refine G_callVI (as := [vI x13, vI x17]) (st := []) (c := 12) (bc2 := 0) (bs2 := 0) (pc := 116) dX12_page_116 z_mX12_thickOf z_vX12_thickOf z_wX12_426 (gX12_thickOf hst fu s10 a0 x13 x17) rfl rfl (by decide) rfl rfl ⟨by decide, by decide, by decide, by decide, Nat.le_of_ble_eq_true rfl⟩ rfl (fun x19 s18 => ?_)
          refine G_fg (lv2 := [vU, vU, vU, vU]) ⟨Or.inl rfl, Or.inl rfl, Or.inl rfl, Or.inl rfl, trivial⟩ ?_
          exact gX12_page_J119 hst fu s18 x19
        · refine G_aload_n (x := a0) (pc := 81) dX12_page_81 rfl ?_
          refine G_getR (j := 62) (pc := 82) dX12_page_82 rfl z_CLX12 (by decide) z_wX12_155 (by decide) (fun x20 => ?_)
          refine G_iload_n (x := a2) (pc := 85) dX12_page_85 rfl ?_
          refine G_iconst (pc := 86) dX12_page_86 ?_
          refine G_iadd (pc := 87) dX12_page_87 (fun x21 => ?_)
          refine G_iald (pc := 88) dX12_page_88 (fun x22 => ?_)
          refine G_aload_n (x := a0) (pc := 89) dX12_page_89 rfl ?_
          refine G_getR (j := 62) (pc := 90) dX12_page_90 rfl z_CLX12 (by decide) z_wX12_155 (by decide) (fun x23 => ?_)
          refine G_iload_n (x := a2) (pc := 93) dX12_page_93 rfl ?_
          refine G_iald (pc := 94) dX12_page_94 (fun x24 => ?_)
          refine G_isub (pc := 95) dX12_page_95 (fun x25 => ?_)
          refine G_goto (tgt := 119) (pc := 96) dX12_page_96 ?_
          refine G_fg (lv2 := [vU, vU, vU, vU]) ⟨Or.inl rfl, Or.inl rfl, Or.inl rfl, Or.inl rfl, trivial⟩ ?_
          exact gX12_page_J119 hst fu s10 x25
      · refine G_aload_n (x := a0) (pc := 67) dX12_page_67 rfl ?_
        refine G_getR (j := 62) (pc := 68) dX12_page_68 rfl z_CLX12 (by decide) z_wX12_155 (by decide) (fun x26 => ?_)
        refine G_iload_n (x := a2) (pc := 71) dX12_page_71 rfl ?_
        refine G_iald (pc := 72) dX12_page_72 (fun x27 => ?_)
        refine G_goto (tgt := 119) (pc := 73) dX12_page_73 ?_
        refine G_fg (lv2 := [vU, vU, vU, vU]) ⟨Or.inl rfl, Or.inl rfl, Or.inl rfl, Or.inl rfl, trivial⟩ ?_
        exact gX12_page_J119 hst fu s10 x27
    · refine G_iconst (pc := 61) dX12_page_61 ?_
      exact G_iret (pc := 62) dX12_page_62
  · refine G_iconst (pc := 40) dX12_page_40 ?_
    exact G_iret (pc := 41) dX12_page_41
def fX12_page_J27 (fu : Nat) (s : z_M) (a0 : Int) (a1 : Int) (a2 : Int) (a3 : Int) (t0 : Int) : z_O := fX12_page_J32 fu s a0 a1 a2 a3 t0 1
theorem gX12_page_J27 {l : Launch} {K : z_K} (hst : l.stackTraces = false) (fu : Nat) (s : z_M) (a0 : Int) (a1 : Int) (a2 : Int) (a3 : Int) (t0 : Int) : G l K mX12_page 12 271 0 0 27 [vR a0, vI a1, vI a2, vI a3] [vR t0] s (fX12_page_J27 fu s a0 a1 a2 a3 t0) := by
  unfold fX12_page_J27
  refine G_iconst (pc := 27) dX12_page_27 ?_
  refine G_goto (tgt := 32) (pc := 28) dX12_page_28 ?_
  exact gX12_page_J32 hst fu s a0 a1 a2 a3 t0 1
def fX12_page (fu : Nat) (s : z_M) (a0 : Int) (a1 : Int) (a2 : Int) (a3 : Int) : z_O := if z_ob a0 12 then z_let (z_up s a0 0 0) (fun s1 => z_bI (fX12_in fu s1 a1 12 9999) (fun x3 s2 => if (x3 : Int) = 0 then (fX12_page_J27 fu s2 a0 a1 a2 a3 a0) else (z_bI (fX12_in fu s2 a3 0 2) (fun x29 s28 => if (x29 : Int) ≠ 0 then (fX12_page_J32 fu s28 a0 a1 a2 a3 a0 0) else (fX12_page_J27 fu s28 a0 a1 a2 a3 a0))))) else none
theorem gX12_page {l : Launch} {K : z_K} (hst : l.stackTraces = false) (fu : Nat) (s : z_M) (a0 : Int) (a1 : Int) (a2 : Int) (a3 : Int) : z_D l K mX12_page 12 271 0 0 [vR a0, vI a1, vI a2, vI a3] s (fX12_page fu s a0 a1 a2 a3) := by
  refine z_D_of (lv := [vR a0, vI a1, vI a2, vI a3]) hst z_mX12_page rfl ?_ (Nat.le_of_ble_eq_true rfl) rfl
  unfold fX12_page
  refine G_aload_n (x := a0) (pc := 0) dX12_page_0 rfl ?_
  refine G_iconst (pc := 1) dX12_page_1 ?_
  refine G_putI (j := 0) (pc := 2) dX12_page_2 rfl z_CLX12 (by decide) z_wX12_170 rfl (by decide) (by decide) (fun s1 => ?_)
  refine G_aload_n (x := a0) (pc := 5) dX12_page_5 rfl ?_
  refine G_iload_n (x := a1) (pc := 6) dX12_page_6 rfl ?_
  refine G_bipush (pc := 7) dX12_page_7 ?_
  refine G_sipush (pc := 9) dX12_page_9 ?_
  refine G_callSI (as := [vI a1, vI 12, vI 9999]) (st := [vR a0]) (bc2 := 0) (bs2 := 0) (pc := 12) dX12_page_12 z_mX12_in z_sX12_in z_wX12_245 (gX12_in hst fu s1 a1 12 9999) rfl rfl ⟨by decide, by decide, by decide, by decide, Nat.le_of_ble_eq_true rfl⟩ rfl (fun x3 s2 => ?_)
  refine G_if_eq (tgt := 27) (pc := 15) dX12_page_15 ?_ ?_
  · exact gX12_page_J27 hst fu s2 a0 a1 a2 a3 a0
  · refine G_iload_n (x := a3) (pc := 18) dX12_page_18 rfl ?_
    refine G_iconst (pc := 19) dX12_page_19 ?_
    refine G_iconst (pc := 20) dX12_page_20 ?_
    refine G_callSI (as := [vI a3, vI 0, vI 2]) (st := [vR a0]) (bc2 := 0) (bs2 := 0) (pc := 21) dX12_page_21 z_mX12_in z_sX12_in z_wX12_245 (gX12_in hst fu s2 a3 0 2) rfl rfl ⟨by decide, by decide, by decide, by decide, Nat.le_of_ble_eq_true rfl⟩ rfl (fun x29 s28 => ?_)
    refine G_if_ne (tgt := 31) (pc := 24) dX12_page_24 ?_ ?_
    · refine G_iconst (pc := 31) dX12_page_31 ?_
      exact gX12_page_J32 hst fu s28 a0 a1 a2 a3 a0 0
    · exact gX12_page_J27 hst fu s28 a0 a1 a2 a3 a0
def fX12_narrow_L39 (fu : Nat) (a0 : Int) (a1 : Int) : Nat → z_M → Int → (z_M → z_O) → z_O
  | 0, _, _, _ => none
  | F + 1, s, a2, k => if (9999 : Int) < a2 then (k s) else (if z_ob a0 12 then z_bI (fX12_pagesBy fu s a0 a2) (fun x8 s7 => if (a1 : Int) < x8 then (z_let (z_w (a2 + 1)) (fun x9 => fX12_narrow_L39 fu a0 a1 F s7 x9 k)) else (some (vI a2, s7))) else none)
theorem gX12_narrow_L39 {l : Launch} {K : z_K} (hst : l.stackTraces = false) (fu : Nat) (a0 : Int) (a1 : Int) (k : z_M → z_O) (hk : ∀ (s : z_M), G l K mX12_narrow 12 271 0 0 63 [vU, vU, vU] [] s (k s)) : ∀ (F : Nat) (s : z_M) (a2 : Int), G l K mX12_narrow 12 271 0 0 39 [vR a0, vI a1, vI a2] [] s (fX12_narrow_L39 fu a0 a1 F s a2 k) := by
  intro F
  induction F with
  | zero => exact fun s a2 h => absurd rfl h
  | succ F ih =>
    intro s a2
    rw [fX12_narrow_L39]
    refine G_iload_n (x := a2) (pc := 39) dX12_narrow_39 rfl ?_
    refine G_sipush (pc := 40) dX12_narrow_40 ?_
    refine G_icmp_gt (tgt := 63) (pc := 43) dX12_narrow_43 ?_ ?_
    · refine G_fg (lv2 := [vU, vU, vU]) ⟨Or.inl rfl, Or.inl rfl, Or.inl rfl, trivial⟩ ?_
      exact hk s
    · refine G_aload_n (x := a0) (pc := 46) dX12_narrow_46 rfl ?_
      refine G_iload_n (x := a2) (pc := 47) dX12_narrow_47 rfl ?_
      refine G_callVI (as := [vI a2]) (st := []) (c := 12) (bc2 := 0) (bs2 := 0) (pc := 48) dX12_narrow_48 z_mX12_pagesBy z_vX12_pagesBy z_wX12_432 (gX12_pagesBy hst fu s a0 a2) rfl rfl (by decide) rfl rfl ⟨by decide, by decide, by decide, by decide, Nat.le_of_ble_eq_true rfl⟩ rfl (fun x8 s7 => ?_)
      refine G_iload_n (x := a1) (pc := 51) dX12_narrow_51 rfl ?_
      refine G_icmp_gt (tgt := 57) (pc := 52) dX12_narrow_52 ?_ ?_
      · refine G_iinc (x := a2) (g := fun x9 => [vR a0, vI a1, vI x9]) (pc := 57) dX12_narrow_57 rfl (fun _ => rfl) (fun x9 => ?_)
        refine G_goto (tgt := 39) (pc := 60) dX12_narrow_60 ?_
        exact ih s7 x9
      · refine G_iload_n (x := a2) (pc := 55) dX12_narrow_55 rfl ?_
        exact G_iret (pc := 56) dX12_narrow_56
def fX12_narrow_J22 (fu : Nat) (s : z_M) (a0 : Int) (a1 : Int) (t0 : Int) (t1 : Int) : z_O := if z_ob t0 12 then z_bI (fX12_bad fu s t0 t1 1 1) (fun x5 s4 => if (x5 : Int) = 0 then (if z_ob a0 12 then z_bN (fX12_laysGutters fu s4 a0) (fun s6 => fX12_narrow_L39 fu a0 a1 fu s6 12 (fun s10 => some (vI (-1), s10))) else none) else (some (vI 0, s4))) else none
theorem gX12_narrow_J22 {l : Launch} {K : z_K} (hst : l.stackTraces = false) (fu : Nat) (s : z_M) (a0 : Int) (a1 : Int) (t0 : Int) (t1 : Int) : G l K mX12_narrow 12 271 0 0 22 [vR a0, vI a1, vU] [vI t1, vR t0] s (fX12_narrow_J22 fu s a0 a1 t0 t1) := by
  unfold fX12_narrow_J22
  refine G_iconst (pc := 22) dX12_narrow_22 ?_
  refine G_iconst (pc := 23) dX12_narrow_23 ?_
  refine G_callVI (as := [vI t1, vI 1, vI 1]) (st := []) (c := 12) (bc2 := 0) (bs2 := 0) (pc := 24) dX12_narrow_24 z_mX12_bad z_vX12_bad z_wX12_249 (gX12_bad hst fu s t0 t1 1 1) rfl rfl (by decide) rfl rfl ⟨by decide, by decide, by decide, by decide, Nat.le_of_ble_eq_true rfl⟩ rfl (fun x5 s4 => ?_)
  refine G_if_eq (tgt := 32) (pc := 27) dX12_narrow_27 ?_ ?_
  · refine G_aload_n (x := a0) (pc := 32) dX12_narrow_32 rfl ?_
    refine G_callVN (as := []) (st := []) (c := 12) (bc2 := 0) (bs2 := 0) (pc := 33) dX12_narrow_33 z_mX12_laysGutters z_vX12_laysGutters z_wX12_429 (gX12_laysGutters hst fu s4 a0) rfl rfl (by decide) rfl rfl ⟨by decide, by decide, by decide, by decide, Nat.le_of_ble_eq_true rfl⟩ rfl (fun s6 => ?_)
    refine G_bipush (pc := 36) dX12_narrow_36 ?_
    refine G_istore_n (lv' := [vR a0, vI a1, vI 12]) (pc := 38) dX12_narrow_38 rfl ?_
    refine gX12_narrow_L39 hst fu a0 a1 _ (fun s10 => ?_) fu s6 12
    refine G_iconst (pc := 63) dX12_narrow_63 ?_
    exact G_iret (pc := 64) dX12_narrow_64
  · refine G_iconst (pc := 30) dX12_narrow_30 ?_
    exact G_iret (pc := 31) dX12_narrow_31
def fX12_narrow (fu : Nat) (s : z_M) (a0 : Int) (a1 : Int) : z_O := if z_ob a0 12 then z_let (z_up s a0 0 0) (fun s1 => z_bI (fX12_in fu s1 a1 1 200) (fun x3 s2 => if (x3 : Int) ≠ 0 then (fX12_narrow_J22 fu s2 a0 a1 a0 0) else (fX12_narrow_J22 fu s2 a0 a1 a0 1))) else none
theorem gX12_narrow {l : Launch} {K : z_K} (hst : l.stackTraces = false) (fu : Nat) (s : z_M) (a0 : Int) (a1 : Int) : z_D l K mX12_narrow 12 271 0 0 [vR a0, vI a1] s (fX12_narrow fu s a0 a1) := by
  refine z_D_of (lv := [vR a0, vI a1, vU]) hst z_mX12_narrow rfl ?_ (Nat.le_of_ble_eq_true rfl) rfl
  unfold fX12_narrow
  refine G_aload_n (x := a0) (pc := 0) dX12_narrow_0 rfl ?_
  refine G_iconst (pc := 1) dX12_narrow_1 ?_
  refine G_putI (j := 0) (pc := 2) dX12_narrow_2 rfl z_CLX12 (by decide) z_wX12_170 rfl (by decide) (by decide) (fun s1 => ?_)
  refine G_aload_n (x := a0) (pc := 5) dX12_narrow_5 rfl ?_
  refine G_iload_n (x := a1) (pc := 6) dX12_narrow_6 rfl ?_
  refine G_iconst (pc := 7) dX12_narrow_7 ?_
  refine G_sipush (pc := 8) dX12_narrow_8 ?_
  refine G_callSI (as := [vI a1, vI 1, vI 200]) (st := [vR a0]) (bc2 := 0) (bs2 := 0) (pc := 11) dX12_narrow_11 z_mX12_in z_sX12_in z_wX12_245 (gX12_in hst fu s1 a1 1 200) rfl rfl ⟨by decide, by decide, by decide, by decide, Nat.le_of_ble_eq_true rfl⟩ rfl (fun x3 s2 => ?_)
  refine G_if_ne (tgt := 21) (pc := 14) dX12_narrow_14 ?_ ?_
  · refine G_iconst (pc := 21) dX12_narrow_21 ?_
    exact gX12_narrow_J22 hst fu s2 a0 a1 a0 0
  · refine G_iconst (pc := 17) dX12_narrow_17 ?_
    refine G_goto (tgt := 22) (pc := 18) dX12_narrow_18 ?_
    exact gX12_narrow_J22 hst fu s2 a0 a1 a0 1
def fX12_ends_J19 (fu : Nat) (s : z_M) (a0 : Int) (a1 : Int) (t0 : Int) (t1 : Int) : z_O := if z_ob t0 12 then z_bI (fX12_bad fu s t0 t1 1 0) (fun x5 s4 => if (x5 : Int) = 0 then (if z_ob a0 12 then z_bI (fX12_mayEnd fu s4 a0 a1) (fun x7 s6 => if z_bl x7 then some (vI x7, s6) else none) else none) else (if z_bl 0 then some (vI 0, s4) else none)) else none
theorem gX12_ends_J19 {l : Launch} {K : z_K} (hst : l.stackTraces = false) (fu : Nat) (s : z_M) (a0 : Int) (a1 : Int) (t0 : Int) (t1 : Int) : G l K mX12_ends 7 155 0 0 19 [vR a0, vI a1] [vI t1, vR t0] s (fX12_ends_J19 fu s a0 a1 t0 t1) := by
  unfold fX12_ends_J19
  refine G_iconst (pc := 19) dX12_ends_19 ?_
  refine G_iconst (pc := 20) dX12_ends_20 ?_
  refine G_callVI (as := [vI t1, vI 1, vI 0]) (st := []) (c := 12) (bc2 := 0) (bs2 := 0) (pc := 21) dX12_ends_21 z_mX12_bad z_vX12_bad z_wX12_249 (gX12_bad hst fu s t0 t1 1 0) rfl rfl (by decide) rfl rfl ⟨by decide, by decide, by decide, by decide, Nat.le_of_ble_eq_true rfl⟩ rfl (fun x5 s4 => ?_)
  refine G_if_eq (tgt := 29) (pc := 24) dX12_ends_24 ?_ ?_
  · refine G_aload_n (x := a0) (pc := 29) dX12_ends_29 rfl ?_
    refine G_iload_n (x := a1) (pc := 30) dX12_ends_30 rfl ?_
    refine G_callVI (as := [vI a1]) (st := []) (c := 12) (bc2 := 0) (bs2 := 0) (pc := 31) dX12_ends_31 z_mX12_mayEnd z_vX12_mayEnd z_wX12_335 (gX12_mayEnd hst fu s4 a0 a1) rfl rfl (by decide) rfl rfl ⟨by decide, by decide, by decide, by decide, Nat.le_of_ble_eq_true rfl⟩ rfl (fun x7 s6 => ?_)
    exact G_zret (pc := 34) dX12_ends_34
  · refine G_iconst (pc := 27) dX12_ends_27 ?_
    exact G_zret (pc := 28) dX12_ends_28
def fX12_ends (fu : Nat) (s : z_M) (a0 : Int) (a1 : Int) : z_O := if z_ob a0 12 then z_let (z_up s a0 0 0) (fun s1 => if z_ob a0 12 then z_bI (fX12_isUnit fu s1 a0 a1) (fun x3 s2 => if (x3 : Int) ≠ 0 then (fX12_ends_J19 fu s2 a0 a1 a0 0) else (fX12_ends_J19 fu s2 a0 a1 a0 1)) else none) else none
theorem gX12_ends {l : Launch} {K : z_K} (hst : l.stackTraces = false) (fu : Nat) (s : z_M) (a0 : Int) (a1 : Int) : z_D l K mX12_ends 7 155 0 0 [vR a0, vI a1] s (fX12_ends fu s a0 a1) := by
  refine z_D_of (lv := [vR a0, vI a1]) hst z_mX12_ends rfl ?_ (Nat.le_of_ble_eq_true rfl) rfl
  unfold fX12_ends
  refine G_aload_n (x := a0) (pc := 0) dX12_ends_0 rfl ?_
  refine G_iconst (pc := 1) dX12_ends_1 ?_
  refine G_putI (j := 0) (pc := 2) dX12_ends_2 rfl z_CLX12 (by decide) z_wX12_170 rfl (by decide) (by decide) (fun s1 => ?_)
  refine G_aload_n (x := a0) (pc := 5) dX12_ends_5 rfl ?_
  refine G_aload_n (x := a0) (pc := 6) dX12_ends_6 rfl ?_
  refine G_iload_n (x := a1) (pc := 7) dX12_ends_7 rfl ?_
  refine G_callVI (as := [vI a1]) (st := [vR a0]) (c := 12) (bc2 := 0) (bs2 := 0) (pc := 8) dX12_ends_8 z_mX12_isUnit z_vX12_isUnit z_wX12_384 (gX12_isUnit hst fu s1 a0 a1) rfl rfl (by decide) rfl rfl ⟨by decide, by decide, by decide, by decide, Nat.le_of_ble_eq_true rfl⟩ rfl (fun x3 s2 => ?_)
  refine G_if_ne (tgt := 18) (pc := 11) dX12_ends_11 ?_ ?_
  · refine G_iconst (pc := 18) dX12_ends_18 ?_
    exact gX12_ends_J19 hst fu s2 a0 a1 a0 0
  · refine G_iconst (pc := 14) dX12_ends_14 ?_
    refine G_goto (tgt := 19) (pc := 15) dX12_ends_15 ?_
    exact gX12_ends_J19 hst fu s2 a0 a1 a0 1
def fX12_longOf_J54 (fu : Nat) (s : z_M) : z_O := some (vI 0, s)
theorem gX12_longOf_J54 {l : Launch} {K : z_K} (hst : l.stackTraces = false) (fu : Nat) (s : z_M) : G l K mX12_longOf 7 156 0 0 54 [vU, vU, vU] [] s (fX12_longOf_J54 fu s) := by
  unfold fX12_longOf_J54
  refine G_iconst (pc := 54) dX12_longOf_54 ?_
  exact G_iret (pc := 55) dX12_longOf_55
def fX12_longOf_J46 (fu : Nat) (s : z_M) (a0 : Int) (a1 : Int) (a2 : Int) (t0 : Int) (t1 : Int) : z_O := if z_ob t0 12 then z_bI (fX12_bad fu s t0 t1 2 1) (fun x7 s6 => if (x7 : Int) = 0 then (if z_ob a0 12 then z_bI (fX12_longAs fu s6 a0 a1 a2) (fun x9 s8 => some (vI x9, s8)) else none) else (fX12_longOf_J54 fu s6)) else none
theorem gX12_longOf_J46 {l : Launch} {K : z_K} (hst : l.stackTraces = false) (fu : Nat) (s : z_M) (a0 : Int) (a1 : Int) (a2 : Int) (t0 : Int) (t1 : Int) : G l K mX12_longOf 7 156 0 0 46 [vR a0, vI a1, vI a2] [vI t1, vR t0] s (fX12_longOf_J46 fu s a0 a1 a2 t0 t1) := by
  unfold fX12_longOf_J46
  refine G_iconst (pc := 46) dX12_longOf_46 ?_
  refine G_iconst (pc := 47) dX12_longOf_47 ?_
  refine G_callVI (as := [vI t1, vI 2, vI 1]) (st := []) (c := 12) (bc2 := 0) (bs2 := 0) (pc := 48) dX12_longOf_48 z_mX12_bad z_vX12_bad z_wX12_249 (gX12_bad hst fu s t0 t1 2 1) rfl rfl (by decide) rfl rfl ⟨by decide, by decide, by decide, by decide, Nat.le_of_ble_eq_true rfl⟩ rfl (fun x7 s6 => ?_)
  refine G_if_eq (tgt := 56) (pc := 51) dX12_longOf_51 ?_ ?_
  · refine G_aload_n (x := a0) (pc := 56) dX12_longOf_56 rfl ?_
    refine G_iload_n (x := a1) (pc := 57) dX12_longOf_57 rfl ?_
    refine G_iload_n (x := a2) (pc := 58) dX12_longOf_58 rfl ?_
    refine G_callVI (as := [vI a1, vI a2]) (st := []) (c := 12) (bc2 := 0) (bs2 := 0) (pc := 59) dX12_longOf_59 z_mX12_longAs z_vX12_longAs z_wX12_332 (gX12_longAs hst fu s6 a0 a1 a2) rfl rfl (by decide) rfl rfl ⟨by decide, by decide, by decide, by decide, Nat.le_of_ble_eq_true rfl⟩ rfl (fun x9 s8 => ?_)
    exact G_iret (pc := 62) dX12_longOf_62
  · refine G_fg (lv2 := [vU, vU, vU]) ⟨Or.inl rfl, Or.inl rfl, Or.inl rfl, trivial⟩ ?_
    exact gX12_longOf_J54 hst fu s6
def fX12_longOf_J27 (fu : Nat) (s : z_M) (a0 : Int) (a1 : Int) (a2 : Int) (t0 : Int) (t1 : Int) : z_O := if z_ob t0 12 then z_bI (fX12_bad fu s t0 t1 1 0) (fun x5 s4 => if (x5 : Int) ≠ 0 then (fX12_longOf_J54 fu s4) else (if (a1 : Int) ≤ a2 then (fX12_longOf_J46 fu s4 a0 a1 a2 a0 0) else (fX12_longOf_J46 fu s4 a0 a1 a2 a0 1))) else none
theorem gX12_longOf_J27 {l : Launch} {K : z_K} (hst : l.stackTraces = false) (fu : Nat) (s : z_M) (a0 : Int) (a1 : Int) (a2 : Int) (t0 : Int) (t1 : Int) : G l K mX12_longOf 7 156 0 0 27 [vR a0, vI a1, vI a2] [vI t1, vR t0] s (fX12_longOf_J27 fu s a0 a1 a2 t0 t1) := by
  unfold fX12_longOf_J27
  refine G_iconst (pc := 27) dX12_longOf_27 ?_
  refine G_iconst (pc := 28) dX12_longOf_28 ?_
  refine G_callVI (as := [vI t1, vI 1, vI 0]) (st := []) (c := 12) (bc2 := 0) (bs2 := 0) (pc := 29) dX12_longOf_29 z_mX12_bad z_vX12_bad z_wX12_249 (gX12_bad hst fu s t0 t1 1 0) rfl rfl (by decide) rfl rfl ⟨by decide, by decide, by decide, by decide, Nat.le_of_ble_eq_true rfl⟩ rfl (fun x5 s4 => ?_)
  refine G_if_ne (tgt := 54) (pc := 32) dX12_longOf_32 ?_ ?_
  · refine G_fg (lv2 := [vU, vU, vU]) ⟨Or.inl rfl, Or.inl rfl, Or.inl rfl, trivial⟩ ?_
    exact gX12_longOf_J54 hst fu s4
  · refine G_aload_n (x := a0) (pc := 35) dX12_longOf_35 rfl ?_
    refine G_iload_n (x := a2) (pc := 36) dX12_longOf_36 rfl ?_
    refine G_iload_n (x := a1) (pc := 37) dX12_longOf_37 rfl ?_
    refine G_icmp_ge (tgt := 45) (pc := 38) dX12_longOf_38 ?_ ?_
    · refine G_iconst (pc := 45) dX12_longOf_45 ?_
      exact gX12_longOf_J46 hst fu s4 a0 a1 a2 a0 0
    · refine G_iconst (pc := 41) dX12_longOf_41 ?_
      refine G_goto (tgt := 46) (pc := 42) dX12_longOf_42 ?_
      exact gX12_longOf_J46 hst fu s4 a0 a1 a2 a0 1
def fX12_longOf_J22 (fu : Nat) (s : z_M) (a0 : Int) (a1 : Int) (a2 : Int) (t0 : Int) : z_O := fX12_longOf_J27 fu s a0 a1 a2 t0 1
theorem gX12_longOf_J22 {l : Launch} {K : z_K} (hst : l.stackTraces = false) (fu : Nat) (s : z_M) (a0 : Int) (a1 : Int) (a2 : Int) (t0 : Int) : G l K mX12_longOf 7 156 0 0 22 [vR a0, vI a1, vI a2] [vR t0] s (fX12_longOf_J22 fu s a0 a1 a2 t0) := by
  unfold fX12_longOf_J22
  refine G_iconst (pc := 22) dX12_longOf_22 ?_
  refine G_goto (tgt := 27) (pc := 23) dX12_longOf_23 ?_
  exact gX12_longOf_J27 hst fu s a0 a1 a2 t0 1
def fX12_longOf (fu : Nat) (s : z_M) (a0 : Int) (a1 : Int) (a2 : Int) : z_O := if z_ob a0 12 then z_let (z_up s a0 0 0) (fun s1 => if z_ob a0 12 then z_bI (fX12_isUnit fu s1 a0 a1) (fun x3 s2 => if (x3 : Int) = 0 then (fX12_longOf_J22 fu s2 a0 a1 a2 a0) else (if z_ob a0 12 then z_bI (fX12_isUnit fu s2 a0 a2) (fun x11 s10 => if (x11 : Int) ≠ 0 then (fX12_longOf_J27 fu s10 a0 a1 a2 a0 0) else (fX12_longOf_J22 fu s10 a0 a1 a2 a0)) else none)) else none) else none
theorem gX12_longOf {l : Launch} {K : z_K} (hst : l.stackTraces = false) (fu : Nat) (s : z_M) (a0 : Int) (a1 : Int) (a2 : Int) : z_D l K mX12_longOf 7 156 0 0 [vR a0, vI a1, vI a2] s (fX12_longOf fu s a0 a1 a2) := by
  refine z_D_of (lv := [vR a0, vI a1, vI a2]) hst z_mX12_longOf rfl ?_ (Nat.le_of_ble_eq_true rfl) rfl
  unfold fX12_longOf
  refine G_aload_n (x := a0) (pc := 0) dX12_longOf_0 rfl ?_
  refine G_iconst (pc := 1) dX12_longOf_1 ?_
  refine G_putI (j := 0) (pc := 2) dX12_longOf_2 rfl z_CLX12 (by decide) z_wX12_170 rfl (by decide) (by decide) (fun s1 => ?_)
  refine G_aload_n (x := a0) (pc := 5) dX12_longOf_5 rfl ?_
  refine G_aload_n (x := a0) (pc := 6) dX12_longOf_6 rfl ?_
  refine G_iload_n (x := a1) (pc := 7) dX12_longOf_7 rfl ?_
  refine G_callVI (as := [vI a1]) (st := [vR a0]) (c := 12) (bc2 := 0) (bs2 := 0) (pc := 8) dX12_longOf_8 z_mX12_isUnit z_vX12_isUnit z_wX12_384 (gX12_isUnit hst fu s1 a0 a1) rfl rfl (by decide) rfl rfl ⟨by decide, by decide, by decide, by decide, Nat.le_of_ble_eq_true rfl⟩ rfl (fun x3 s2 => ?_)
  refine G_if_eq (tgt := 22) (pc := 11) dX12_longOf_11 ?_ ?_
  · exact gX12_longOf_J22 hst fu s2 a0 a1 a2 a0
  · refine G_aload_n (x := a0) (pc := 14) dX12_longOf_14 rfl ?_
    refine G_iload_n (x := a2) (pc := 15) dX12_longOf_15 rfl ?_
    refine G_callVI (as := [vI a2]) (st := [vR a0]) (c := 12) (bc2 := 0) (bs2 := 0) (pc := 16) dX12_longOf_16 z_mX12_isUnit z_vX12_isUnit z_wX12_384 (gX12_isUnit hst fu s2 a0 a2) rfl rfl (by decide) rfl rfl ⟨by decide, by decide, by decide, by decide, Nat.le_of_ble_eq_true rfl⟩ rfl (fun x11 s10 => ?_)
    refine G_if_ne (tgt := 26) (pc := 19) dX12_longOf_19 ?_ ?_
    · refine G_iconst (pc := 26) dX12_longOf_26 ?_
      exact gX12_longOf_J27 hst fu s10 a0 a1 a2 a0 0
    · exact gX12_longOf_J22 hst fu s10 a0 a1 a2 a0
def fX12_lines_J32 (fu : Nat) (s : z_M) (a0 : Int) (a1 : Int) (a2 : Int) (t0 : Int) (t1 : Int) : z_O := if z_ob t0 12 then z_bI (fX12_bad fu s t0 t1 1 1) (fun x5 s4 => if (x5 : Int) = 0 then (if z_ob a0 12 then z_bI (fX12_breaks fu s4 a0 a1 a2) (fun x7 s6 => if z_ob a0 12 ∧ z_bl 0 then z_let (z_up s6 a0 43 0) (fun s8 => some (vI x7, s8)) else none) else none) else (some (vI 0, s4))) else none
theorem gX12_lines_J32 {l : Launch} {K : z_K} (hst : l.stackTraces = false) (fu : Nat) (s : z_M) (a0 : Int) (a1 : Int) (a2 : Int) (t0 : Int) (t1 : Int) : G l K mX12_lines 10 229 0 0 32 [vR a0, vI a1, vI a2, vU] [vI t1, vR t0] s (fX12_lines_J32 fu s a0 a1 a2 t0 t1) := by
  unfold fX12_lines_J32
  refine G_iconst (pc := 32) dX12_lines_32 ?_
  refine G_iconst (pc := 33) dX12_lines_33 ?_
  refine G_callVI (as := [vI t1, vI 1, vI 1]) (st := []) (c := 12) (bc2 := 0) (bs2 := 0) (pc := 34) dX12_lines_34 z_mX12_bad z_vX12_bad z_wX12_249 (gX12_bad hst fu s t0 t1 1 1) rfl rfl (by decide) rfl rfl ⟨by decide, by decide, by decide, by decide, Nat.le_of_ble_eq_true rfl⟩ rfl (fun x5 s4 => ?_)
  refine G_if_eq (tgt := 42) (pc := 37) dX12_lines_37 ?_ ?_
  · refine G_aload_n (x := a0) (pc := 42) dX12_lines_42 rfl ?_
    refine G_iload_n (x := a1) (pc := 43) dX12_lines_43 rfl ?_
    refine G_iload_n (x := a2) (pc := 44) dX12_lines_44 rfl ?_
    refine G_callVI (as := [vI a1, vI a2]) (st := []) (c := 12) (bc2 := 0) (bs2 := 0) (pc := 45) dX12_lines_45 z_mX12_breaks z_vX12_breaks z_wX12_362 (gX12_breaks hst fu s4 a0 a1 a2) rfl rfl (by decide) rfl rfl ⟨by decide, by decide, by decide, by decide, Nat.le_of_ble_eq_true rfl⟩ rfl (fun x7 s6 => ?_)
    refine G_istore_n (lv' := [vR a0, vI a1, vI a2, vI x7]) (pc := 48) dX12_lines_48 rfl ?_
    refine G_aload_n (x := a0) (pc := 49) dX12_lines_49 rfl ?_
    refine G_iconst (pc := 50) dX12_lines_50 ?_
    refine G_putZ (j := 43) (pc := 51) dX12_lines_51 rfl z_CLX12 (by decide) z_wX12_323 rfl (by decide) (fun s8 => ?_)
    refine G_iload_n (x := x7) (pc := 54) dX12_lines_54 rfl ?_
    exact G_iret (pc := 55) dX12_lines_55
  · refine G_iconst (pc := 40) dX12_lines_40 ?_
    exact G_iret (pc := 41) dX12_lines_41
def fX12_lines_J27 (fu : Nat) (s : z_M) (a0 : Int) (a1 : Int) (a2 : Int) (t0 : Int) : z_O := fX12_lines_J32 fu s a0 a1 a2 t0 1
theorem gX12_lines_J27 {l : Launch} {K : z_K} (hst : l.stackTraces = false) (fu : Nat) (s : z_M) (a0 : Int) (a1 : Int) (a2 : Int) (t0 : Int) : G l K mX12_lines 10 229 0 0 27 [vR a0, vI a1, vI a2, vU] [vR t0] s (fX12_lines_J27 fu s a0 a1 a2 t0) := by
  unfold fX12_lines_J27
  refine G_iconst (pc := 27) dX12_lines_27 ?_
  refine G_goto (tgt := 32) (pc := 28) dX12_lines_28 ?_
  exact gX12_lines_J32 hst fu s a0 a1 a2 t0 1
def fX12_lines (fu : Nat) (s : z_M) (a0 : Int) (a1 : Int) (a2 : Int) : z_O := if z_ob a0 12 then z_let (z_up s a0 0 0) (fun s1 => z_bI (fX12_in fu s1 a1 12 999) (fun x3 s2 => if (x3 : Int) = 0 then (fX12_lines_J27 fu s2 a0 a1 a2 a0) else (z_bI (fX12_in fu s2 a2 0 1) (fun x10 s9 => if (x10 : Int) ≠ 0 then (fX12_lines_J32 fu s9 a0 a1 a2 a0 0) else (fX12_lines_J27 fu s9 a0 a1 a2 a0))))) else none
theorem gX12_lines {l : Launch} {K : z_K} (hst : l.stackTraces = false) (fu : Nat) (s : z_M) (a0 : Int) (a1 : Int) (a2 : Int) : z_D l K mX12_lines 10 229 0 0 [vR a0, vI a1, vI a2] s (fX12_lines fu s a0 a1 a2) := by
  refine z_D_of (lv := [vR a0, vI a1, vI a2, vU]) hst z_mX12_lines rfl ?_ (Nat.le_of_ble_eq_true rfl) rfl
  unfold fX12_lines
  refine G_aload_n (x := a0) (pc := 0) dX12_lines_0 rfl ?_
  refine G_iconst (pc := 1) dX12_lines_1 ?_
  refine G_putI (j := 0) (pc := 2) dX12_lines_2 rfl z_CLX12 (by decide) z_wX12_170 rfl (by decide) (by decide) (fun s1 => ?_)
  refine G_aload_n (x := a0) (pc := 5) dX12_lines_5 rfl ?_
  refine G_iload_n (x := a1) (pc := 6) dX12_lines_6 rfl ?_
  refine G_bipush (pc := 7) dX12_lines_7 ?_
  refine G_sipush (pc := 9) dX12_lines_9 ?_
  refine G_callSI (as := [vI a1, vI 12, vI 999]) (st := [vR a0]) (bc2 := 0) (bs2 := 0) (pc := 12) dX12_lines_12 z_mX12_in z_sX12_in z_wX12_245 (gX12_in hst fu s1 a1 12 999) rfl rfl ⟨by decide, by decide, by decide, by decide, Nat.le_of_ble_eq_true rfl⟩ rfl (fun x3 s2 => ?_)
  refine G_if_eq (tgt := 27) (pc := 15) dX12_lines_15 ?_ ?_
  · exact gX12_lines_J27 hst fu s2 a0 a1 a2 a0
  · refine G_iload_n (x := a2) (pc := 18) dX12_lines_18 rfl ?_
    refine G_iconst (pc := 19) dX12_lines_19 ?_
    refine G_iconst (pc := 20) dX12_lines_20 ?_
    refine G_callSI (as := [vI a2, vI 0, vI 1]) (st := [vR a0]) (bc2 := 0) (bs2 := 0) (pc := 21) dX12_lines_21 z_mX12_in z_sX12_in z_wX12_245 (gX12_in hst fu s2 a2 0 1) rfl rfl ⟨by decide, by decide, by decide, by decide, Nat.le_of_ble_eq_true rfl⟩ rfl (fun x10 s9 => ?_)
    refine G_if_ne (tgt := 31) (pc := 24) dX12_lines_24 ?_ ?_
    · refine G_iconst (pc := 31) dX12_lines_31 ?_
      exact gX12_lines_J32 hst fu s9 a0 a1 a2 a0 0
    · exact gX12_lines_J27 hst fu s9 a0 a1 a2 a0
def fX12_least_J116 (fu : Nat) (s : z_M) (a0 : Int) (a1 : Int) (a2 : Int) (a3 : Int) (a5 : Int) (t0 : Int) (r : z_M → Int → Int → z_O) (k : z_M → Int → z_O) : z_O := z_let (z_w (a5 + 1)) (fun x19 => r s t0 x19)
theorem gX12_least_J116 {l : Launch} {K : z_K} (hst : l.stackTraces = false) (fu : Nat) (s : z_M) (a0 : Int) (a1 : Int) (a2 : Int) (a3 : Int) (a5 : Int) (t0 : Int) (r : z_M → Int → Int → z_O) (k : z_M → Int → z_O) (hr : ∀ (s : z_M) (a4 : Int) (a5 : Int), G l K mX12_least 10 229 0 0 74 [vR a0, vI a1, vI a2, vI a3, vI a4, vI a5] [] s (r s a4 a5)) (hk : ∀ (s : z_M) (a4 : Int), G l K mX12_least 10 229 0 0 124 [vR a0, vI a1, vI a2, vU, vI a4, vU] [] s (k s a4)) : G l K mX12_least 10 229 0 0 116 [vR a0, vI a1, vI a2, vI a3, vU, vI a5] [vI t0] s (fX12_least_J116 fu s a0 a1 a2 a3 a5 t0 r k) := by
  unfold fX12_least_J116
  refine G_istore (lv' := [vR a0, vI a1, vI a2, vI a3, vI t0, vI a5]) (pc := 116) dX12_least_116 rfl ?_
  refine G_iinc (x := a5) (g := fun x19 => [vR a0, vI a1, vI a2, vI a3, vI t0, vI x19]) (pc := 118) dX12_least_118 rfl (fun _ => rfl) (fun x19 => ?_)
  refine G_goto (tgt := 74) (pc := 121) dX12_least_121 ?_
  exact hr s t0 x19
def fX12_least_L74 (fu : Nat) (a0 : Int) (a1 : Int) (a2 : Int) (a3 : Int) : Nat → z_M → Int → Int → (z_M → Int → z_O) → z_O
  | 0, _, _, _, _ => none
  | F + 1, s, a4, a5, k => if (a3 : Int) ≤ a5 then (k s a4) else (if (a4 : Int) = 0 then (k s a4) else (if z_ob a0 12 then z_let (z_gr a0 45) (fun x11 => if z_ix x11 100 a5 then z_let (s x11 a5) (fun x12 => if z_ob a0 12 then z_let (z_gr a0 45) (fun x13 => z_let (z_w (a5 + 1)) (fun x14 => if z_ix x13 100 x14 then z_let (s x13 x14) (fun x15 => z_let (z_w (x15 - 1)) (fun x16 => if z_ob a0 12 then z_bI (fX12_longAs fu s a0 x12 x16) (fun x18 s17 => if (a2 : Int) < x18 then (fX12_least_J116 fu s17 a0 a1 a2 a3 a5 0 (fun w v4 v5 => fX12_least_L74 fu a0 a1 a2 a3 F w v4 v5 k) k) else (fX12_least_J116 fu s17 a0 a1 a2 a3 a5 1 (fun w v4 v5 => fX12_least_L74 fu a0 a1 a2 a3 F w v4 v5 k) k)) else none)) else none)) else none) else none) else none))
theorem gX12_least_L74 {l : Launch} {K : z_K} (hst : l.stackTraces = false) (fu : Nat) (a0 : Int) (a1 : Int) (a2 : Int) (a3 : Int) (k : z_M → Int → z_O) (hk : ∀ (s : z_M) (a4 : Int), G l K mX12_least 10 229 0 0 124 [vR a0, vI a1, vI a2, vU, vI a4, vU] [] s (k s a4)) : ∀ (F : Nat) (s : z_M) (a4 : Int) (a5 : Int), G l K mX12_least 10 229 0 0 74 [vR a0, vI a1, vI a2, vI a3, vI a4, vI a5] [] s (fX12_least_L74 fu a0 a1 a2 a3 F s a4 a5 k) := by
  intro F
  induction F with
  | zero => exact fun s a4 a5 h => absurd rfl h
  | succ F ih =>
    intro s a4 a5
    rw [fX12_least_L74]
    refine G_iload (x := a5) (pc := 74) dX12_least_74 rfl ?_
    refine G_iload_n (x := a3) (pc := 76) dX12_least_76 rfl ?_
    refine G_icmp_ge (tgt := 124) (pc := 77) dX12_least_77 ?_ ?_
    · refine G_fg (lv2 := [vR a0, vI a1, vI a2, vU, vI a4, vU]) ⟨Or.inr rfl, Or.inr rfl, Or.inr rfl, Or.inl rfl, Or.inr rfl, Or.inl rfl, trivial⟩ ?_
      exact hk s a4
    · refine G_iload (x := a4) (pc := 80) dX12_least_80 rfl ?_
      refine G_if_eq (tgt := 124) (pc := 82) dX12_least_82 ?_ ?_
      · refine G_fg (lv2 := [vR a0, vI a1, vI a2, vU, vI a4, vU]) ⟨Or.inr rfl, Or.inr rfl, Or.inr rfl, Or.inl rfl, Or.inr rfl, Or.inl rfl, trivial⟩ ?_
        exact hk s a4
      · refine G_aload_n (x := a0) (pc := 85) dX12_least_85 rfl ?_
        refine G_aload_n (x := a0) (pc := 86) dX12_least_86 rfl ?_
        refine G_getR (j := 45) (pc := 87) dX12_least_87 rfl z_CLX12 (by decide) z_wX12_109 (by decide) (fun x11 => ?_)
        refine G_iload (x := a5) (pc := 90) dX12_least_90 rfl ?_
        refine G_iald (pc := 92) dX12_least_92 (fun x12 => ?_)
        refine G_aload_n (x := a0) (pc := 93) dX12_least_93 rfl ?_
        refine G_getR (j := 45) (pc := 94) dX12_least_94 rfl z_CLX12 (by decide) z_wX12_109 (by decide) (fun x13 => ?_)
        refine G_iload (x := a5) (pc := 97) dX12_least_97 rfl ?_
        refine G_iconst (pc := 99) dX12_least_99 ?_
        refine G_iadd (pc := 100) dX12_least_100 (fun x14 => ?_)
        refine G_iald (pc := 101) dX12_least_101 (fun x15 => ?_)
        refine G_iconst (pc := 102) dX12_least_102 ?_
        refine G_isub (pc := 103) dX12_least_103 (fun x16 => ?_)
        refine G_callVI (as := [vI x12, vI x16]) (st := []) (c := 12) (bc2 := 0) (bs2 := 0) (pc := 104) dX12_least_104 z_mX12_longAs z_vX12_longAs z_wX12_332 (gX12_longAs hst fu s a0 x12 x16) rfl rfl (by decide) rfl rfl ⟨by decide, by decide, by decide, by decide, Nat.le_of_ble_eq_true rfl⟩ rfl (fun x18 s17 => ?_)
        refine G_iload_n (x := a2) (pc := 107) dX12_least_107 rfl ?_
        refine G_icmp_gt (tgt := 115) (pc := 108) dX12_least_108 ?_ ?_
        · refine G_iconst (pc := 115) dX12_least_115 ?_
          refine G_fg (lv2 := [vR a0, vI a1, vI a2, vI a3, vU, vI a5]) ⟨Or.inr rfl, Or.inr rfl, Or.inr rfl, Or.inr rfl, Or.inl rfl, Or.inr rfl, trivial⟩ ?_
          exact gX12_least_J116 hst fu s17 a0 a1 a2 a3 a5 0 _ _ (fun w v4 v5 => ih w v4 v5) hk
        · refine G_iconst (pc := 111) dX12_least_111 ?_
          refine G_goto (tgt := 116) (pc := 112) dX12_least_112 ?_
          refine G_fg (lv2 := [vR a0, vI a1, vI a2, vI a3, vU, vI a5]) ⟨Or.inr rfl, Or.inr rfl, Or.inr rfl, Or.inr rfl, Or.inl rfl, Or.inr rfl, trivial⟩ ?_
          exact gX12_least_J116 hst fu s17 a0 a1 a2 a3 a5 1 _ _ (fun w v4 v5 => ih w v4 v5) hk
def fX12_least_J124 (fu : Nat) (s : z_M) (a0 : Int) (a1 : Int) (a2 : Int) (a4 : Int) (r : z_M → Int → z_O) (k : z_M → z_O) : z_O := if (a4 : Int) = 0 then (z_let (z_w (a2 + 1)) (fun x22 => r s x22)) else (some (vI a2, s))
theorem gX12_least_J124 {l : Launch} {K : z_K} (hst : l.stackTraces = false) (fu : Nat) (s : z_M) (a0 : Int) (a1 : Int) (a2 : Int) (a4 : Int) (r : z_M → Int → z_O) (k : z_M → z_O) (hr : ∀ (s : z_M) (a2 : Int), G l K mX12_least 10 229 0 0 40 [vR a0, vI a1, vI a2, vU, vU, vU] [] s (r s a2)) (hk : ∀ (s : z_M), G l K mX12_least 10 229 0 0 137 [vU, vU, vU, vU, vU, vU] [] s (k s)) : G l K mX12_least 10 229 0 0 124 [vR a0, vI a1, vI a2, vU, vI a4, vU] [] s (fX12_least_J124 fu s a0 a1 a2 a4 r k) := by
  unfold fX12_least_J124
  refine G_iload (x := a4) (pc := 124) dX12_least_124 rfl ?_
  refine G_if_eq (tgt := 131) (pc := 126) dX12_least_126 ?_ ?_
  · refine G_iinc (x := a2) (g := fun x22 => [vR a0, vI a1, vI x22, vU, vI a4, vU]) (pc := 131) dX12_least_131 rfl (fun _ => rfl) (fun x22 => ?_)
    refine G_goto (tgt := 40) (pc := 134) dX12_least_134 ?_
    refine G_fg (lv2 := [vR a0, vI a1, vI x22, vU, vU, vU]) ⟨Or.inr rfl, Or.inr rfl, Or.inr rfl, Or.inl rfl, Or.inl rfl, Or.inl rfl, trivial⟩ ?_
    exact hr s x22
  · refine G_iload_n (x := a2) (pc := 129) dX12_least_129 rfl ?_
    exact G_iret (pc := 130) dX12_least_130
def fX12_least_J69 (fu : Nat) (s : z_M) (a0 : Int) (a1 : Int) (a2 : Int) (a3 : Int) (t0 : Int) (r : z_M → Int → z_O) (k : z_M → z_O) : z_O := fX12_least_L74 fu a0 a1 a2 a3 fu s t0 0 (fun s20 x21 => fX12_least_J124 fu s20 a0 a1 a2 x21 (fun w v2 => r w v2) k)
theorem gX12_least_J69 {l : Launch} {K : z_K} (hst : l.stackTraces = false) (fu : Nat) (s : z_M) (a0 : Int) (a1 : Int) (a2 : Int) (a3 : Int) (t0 : Int) (r : z_M → Int → z_O) (k : z_M → z_O) (hr : ∀ (s : z_M) (a2 : Int), G l K mX12_least 10 229 0 0 40 [vR a0, vI a1, vI a2, vU, vU, vU] [] s (r s a2)) (hk : ∀ (s : z_M), G l K mX12_least 10 229 0 0 137 [vU, vU, vU, vU, vU, vU] [] s (k s)) : G l K mX12_least 10 229 0 0 69 [vR a0, vI a1, vI a2, vI a3, vU, vU] [vI t0] s (fX12_least_J69 fu s a0 a1 a2 a3 t0 r k) := by
  unfold fX12_least_J69
  refine G_istore (lv' := [vR a0, vI a1, vI a2, vI a3, vI t0, vU]) (pc := 69) dX12_least_69 rfl ?_
  refine G_iconst (pc := 71) dX12_least_71 ?_
  refine G_istore (lv' := [vR a0, vI a1, vI a2, vI a3, vI t0, vI 0]) (pc := 72) dX12_least_72 rfl ?_
  refine gX12_least_L74 hst fu a0 a1 a2 a3 _ (fun s20 x21 => ?_) fu s t0 0
  exact gX12_least_J124 hst fu s20 a0 a1 a2 x21 _ _ (fun w v2 => hr w v2) hk
def fX12_least_L40 (fu : Nat) (a0 : Int) (a1 : Int) : Nat → z_M → Int → (z_M → z_O) → z_O
  | 0, _, _, _ => none
  | F + 1, s, a2, k => if (999 : Int) < a2 then (k s) else (if z_ob a0 12 then z_let (z_gr a0 9) (fun x7 => if z_ix x7 100 3 then z_let (s x7 3) (fun x8 => if z_ob a0 12 then z_bI (fX12_breaks fu s a0 a2 x8) (fun x10 s9 => if (a1 : Int) < x10 then (fX12_least_J69 fu s9 a0 a1 a2 x10 0 (fun w v2 => fX12_least_L40 fu a0 a1 F w v2 k) k) else (fX12_least_J69 fu s9 a0 a1 a2 x10 1 (fun w v2 => fX12_least_L40 fu a0 a1 F w v2 k) k)) else none) else none) else none)
theorem gX12_least_L40 {l : Launch} {K : z_K} (hst : l.stackTraces = false) (fu : Nat) (a0 : Int) (a1 : Int) (k : z_M → z_O) (hk : ∀ (s : z_M), G l K mX12_least 10 229 0 0 137 [vU, vU, vU, vU, vU, vU] [] s (k s)) : ∀ (F : Nat) (s : z_M) (a2 : Int), G l K mX12_least 10 229 0 0 40 [vR a0, vI a1, vI a2, vU, vU, vU] [] s (fX12_least_L40 fu a0 a1 F s a2 k) := by
  intro F
  induction F with
  | zero => exact fun s a2 h => absurd rfl h
  | succ F ih =>
    intro s a2
    rw [fX12_least_L40]
    refine G_iload_n (x := a2) (pc := 40) dX12_least_40 rfl ?_
    refine G_sipush (pc := 41) dX12_least_41 ?_
    refine G_icmp_gt (tgt := 137) (pc := 44) dX12_least_44 ?_ ?_
    · refine G_fg (lv2 := [vU, vU, vU, vU, vU, vU]) ⟨Or.inl rfl, Or.inl rfl, Or.inl rfl, Or.inl rfl, Or.inl rfl, Or.inl rfl, trivial⟩ ?_
      exact hk s
    · refine G_aload_n (x := a0) (pc := 47) dX12_least_47 rfl ?_
      refine G_iload_n (x := a2) (pc := 48) dX12_least_48 rfl ?_
      refine G_aload_n (x := a0) (pc := 49) dX12_least_49 rfl ?_
      refine G_getR (j := 9) (pc := 50) dX12_least_50 rfl z_CLX12 (by decide) z_wX12_20 (by decide) (fun x7 => ?_)
      refine G_iconst (pc := 53) dX12_least_53 ?_
      refine G_iald (pc := 54) dX12_least_54 (fun x8 => ?_)
      refine G_callVI (as := [vI a2, vI x8]) (st := []) (c := 12) (bc2 := 0) (bs2 := 0) (pc := 55) dX12_least_55 z_mX12_breaks z_vX12_breaks z_wX12_362 (gX12_breaks hst fu s a0 a2 x8) rfl rfl (by decide) rfl rfl ⟨by decide, by decide, by decide, by decide, Nat.le_of_ble_eq_true rfl⟩ rfl (fun x10 s9 => ?_)
      refine G_istore_n (lv' := [vR a0, vI a1, vI a2, vI x10, vU, vU]) (pc := 58) dX12_least_58 rfl ?_
      refine G_iload_n (x := x10) (pc := 59) dX12_least_59 rfl ?_
      refine G_iload_n (x := a1) (pc := 60) dX12_least_60 rfl ?_
      refine G_icmp_gt (tgt := 68) (pc := 61) dX12_least_61 ?_ ?_
      · refine G_iconst (pc := 68) dX12_least_68 ?_
        exact gX12_least_J69 hst fu s9 a0 a1 a2 x10 0 _ _ (fun w v2 => ih w v2) hk
      · refine G_iconst (pc := 64) dX12_least_64 ?_
        refine G_goto (tgt := 69) (pc := 65) dX12_least_65 ?_
        exact gX12_least_J69 hst fu s9 a0 a1 a2 x10 1 _ _ (fun w v2 => ih w v2) hk
def fX12_least_J22 (fu : Nat) (s : z_M) (a0 : Int) (a1 : Int) (t0 : Int) (t1 : Int) : z_O := if z_ob t0 12 then z_bI (fX12_bad fu s t0 t1 1 1) (fun x5 s4 => if (x5 : Int) = 0 then (if z_ob a0 12 ∧ z_bl 0 then z_let (z_up s4 a0 43 0) (fun s6 => fX12_least_L40 fu a0 a1 fu s6 12 (fun s23 => some (vI (-1), s23))) else none) else (some (vI 0, s4))) else none
theorem gX12_least_J22 {l : Launch} {K : z_K} (hst : l.stackTraces = false) (fu : Nat) (s : z_M) (a0 : Int) (a1 : Int) (t0 : Int) (t1 : Int) : G l K mX12_least 10 229 0 0 22 [vR a0, vI a1, vU, vU, vU, vU] [vI t1, vR t0] s (fX12_least_J22 fu s a0 a1 t0 t1) := by
  unfold fX12_least_J22
  refine G_iconst (pc := 22) dX12_least_22 ?_
  refine G_iconst (pc := 23) dX12_least_23 ?_
  refine G_callVI (as := [vI t1, vI 1, vI 1]) (st := []) (c := 12) (bc2 := 0) (bs2 := 0) (pc := 24) dX12_least_24 z_mX12_bad z_vX12_bad z_wX12_249 (gX12_bad hst fu s t0 t1 1 1) rfl rfl (by decide) rfl rfl ⟨by decide, by decide, by decide, by decide, Nat.le_of_ble_eq_true rfl⟩ rfl (fun x5 s4 => ?_)
  refine G_if_eq (tgt := 32) (pc := 27) dX12_least_27 ?_ ?_
  · refine G_aload_n (x := a0) (pc := 32) dX12_least_32 rfl ?_
    refine G_iconst (pc := 33) dX12_least_33 ?_
    refine G_putZ (j := 43) (pc := 34) dX12_least_34 rfl z_CLX12 (by decide) z_wX12_323 rfl (by decide) (fun s6 => ?_)
    refine G_bipush (pc := 37) dX12_least_37 ?_
    refine G_istore_n (lv' := [vR a0, vI a1, vI 12, vU, vU, vU]) (pc := 39) dX12_least_39 rfl ?_
    refine gX12_least_L40 hst fu a0 a1 _ (fun s23 => ?_) fu s6 12
    refine G_iconst (pc := 137) dX12_least_137 ?_
    exact G_iret (pc := 138) dX12_least_138
  · refine G_iconst (pc := 30) dX12_least_30 ?_
    exact G_iret (pc := 31) dX12_least_31
def fX12_least (fu : Nat) (s : z_M) (a0 : Int) (a1 : Int) : z_O := if z_ob a0 12 then z_let (z_up s a0 0 0) (fun s1 => z_bI (fX12_in fu s1 a1 1 200) (fun x3 s2 => if (x3 : Int) ≠ 0 then (fX12_least_J22 fu s2 a0 a1 a0 0) else (fX12_least_J22 fu s2 a0 a1 a0 1))) else none
theorem gX12_least {l : Launch} {K : z_K} (hst : l.stackTraces = false) (fu : Nat) (s : z_M) (a0 : Int) (a1 : Int) : z_D l K mX12_least 10 229 0 0 [vR a0, vI a1] s (fX12_least fu s a0 a1) := by
  refine z_D_of (lv := [vR a0, vI a1, vU, vU, vU, vU]) hst z_mX12_least rfl ?_ (Nat.le_of_ble_eq_true rfl) rfl
  unfold fX12_least
  refine G_aload_n (x := a0) (pc := 0) dX12_least_0 rfl ?_
  refine G_iconst (pc := 1) dX12_least_1 ?_
  refine G_putI (j := 0) (pc := 2) dX12_least_2 rfl z_CLX12 (by decide) z_wX12_170 rfl (by decide) (by decide) (fun s1 => ?_)
  refine G_aload_n (x := a0) (pc := 5) dX12_least_5 rfl ?_
  refine G_iload_n (x := a1) (pc := 6) dX12_least_6 rfl ?_
  refine G_iconst (pc := 7) dX12_least_7 ?_
  refine G_sipush (pc := 8) dX12_least_8 ?_
  refine G_callSI (as := [vI a1, vI 1, vI 200]) (st := [vR a0]) (bc2 := 0) (bs2 := 0) (pc := 11) dX12_least_11 z_mX12_in z_sX12_in z_wX12_245 (gX12_in hst fu s1 a1 1 200) rfl rfl ⟨by decide, by decide, by decide, by decide, Nat.le_of_ble_eq_true rfl⟩ rfl (fun x3 s2 => ?_)
  refine G_if_ne (tgt := 21) (pc := 14) dX12_least_14 ?_ ?_
  · refine G_iconst (pc := 21) dX12_least_21 ?_
    exact gX12_least_J22 hst fu s2 a0 a1 a0 0
  · refine G_iconst (pc := 17) dX12_least_17 ?_
    refine G_goto (tgt := 22) (pc := 18) dX12_least_18 ?_
    exact gX12_least_J22 hst fu s2 a0 a1 a0 1
def fX12_costsBy (fu : Nat) (s : z_M) (a0 : Int) (a1 : Int) : z_O := if z_ob a0 12 then z_let (z_gr a0 9) (fun x1 => if z_ix x1 100 0 then z_let (s x1 0) (fun x2 => if z_ob a0 12 then z_bI (fX12_breaks fu s a0 x2 a1) (fun x4 s3 => if z_ob a0 12 then z_let (z_up s3 a0 44 x4) (fun s5 => if z_ob a0 12 ∧ z_bl 0 then z_let (z_up s5 a0 43 0) (fun s6 => if z_ob a0 12 then z_bL (fX12_costs fu s6 a0) (fun x8 s7 => some (vL x8, s7)) else none) else none) else none) else none) else none) else none
theorem gX12_costsBy {l : Launch} {K : z_K} (hst : l.stackTraces = false) (fu : Nat) (s : z_M) (a0 : Int) (a1 : Int) : z_D l K mX12_costsBy 10 229 0 0 [vR a0, vI a1] s (fX12_costsBy fu s a0 a1) := by
  refine z_D_of (lv := [vR a0, vI a1]) hst z_mX12_costsBy rfl ?_ (Nat.le_of_ble_eq_true rfl) rfl
  unfold fX12_costsBy
  refine G_aload_n (x := a0) (pc := 0) dX12_costsBy_0 rfl ?_
  refine G_aload_n (x := a0) (pc := 1) dX12_costsBy_1 rfl ?_
  refine G_aload_n (x := a0) (pc := 2) dX12_costsBy_2 rfl ?_
  refine G_getR (j := 9) (pc := 3) dX12_costsBy_3 rfl z_CLX12 (by decide) z_wX12_20 (by decide) (fun x1 => ?_)
  refine G_iconst (pc := 6) dX12_costsBy_6 ?_
  refine G_iald (pc := 7) dX12_costsBy_7 (fun x2 => ?_)
  refine G_iload_n (x := a1) (pc := 8) dX12_costsBy_8 rfl ?_
  refine G_callVI (as := [vI x2, vI a1]) (st := [vR a0]) (c := 12) (bc2 := 0) (bs2 := 0) (pc := 9) dX12_costsBy_9 z_mX12_breaks z_vX12_breaks z_wX12_362 (gX12_breaks hst fu s a0 x2 a1) rfl rfl (by decide) rfl rfl ⟨by decide, by decide, by decide, by decide, Nat.le_of_ble_eq_true rfl⟩ rfl (fun x4 s3 => ?_)
  refine G_putI (j := 44) (pc := 12) dX12_costsBy_12 rfl z_CLX12 (by decide) z_wX12_365 rfl (by decide) (by decide) (fun s5 => ?_)
  refine G_aload_n (x := a0) (pc := 15) dX12_costsBy_15 rfl ?_
  refine G_iconst (pc := 16) dX12_costsBy_16 ?_
  refine G_putZ (j := 43) (pc := 17) dX12_costsBy_17 rfl z_CLX12 (by decide) z_wX12_323 rfl (by decide) (fun s6 => ?_)
  refine G_aload_n (x := a0) (pc := 20) dX12_costsBy_20 rfl ?_
  refine G_callVL (as := []) (st := []) (c := 12) (bc2 := 0) (bs2 := 0) (pc := 21) dX12_costsBy_21 z_mX12_costs z_vX12_costs z_wX12_377 (gX12_costs hst fu s6 a0) rfl rfl (by decide) rfl rfl ⟨by decide, by decide, by decide, by decide, Nat.le_of_ble_eq_true rfl⟩ rfl (fun x8 s7 => ?_)
  exact G_lret (pc := 24) dX12_costsBy_24
def fX12_better (fu : Nat) (s : z_M) (a0 : Int) : z_O := if z_ob a0 12 then z_let (z_up s a0 0 0) (fun s1 => if z_ob a0 12 then z_bL (fX12_costsBy fu s1 a0 0) (fun x3 s2 => if z_ob a0 12 then z_bL (fX12_costsBy fu s2 a0 1) (fun x5 s4 => z_let (z_wl (x3 - x5)) (fun x6 => some (vL x6, s4))) else none) else none) else none
theorem gX12_better {l : Launch} {K : z_K} (hst : l.stackTraces = false) (fu : Nat) (s : z_M) (a0 : Int) : z_D l K mX12_better 11 250 0 0 [vR a0] s (fX12_better fu s a0) := by
  refine z_D_of (lv := [vR a0, vU, vU]) hst z_mX12_better rfl ?_ (Nat.le_of_ble_eq_true rfl) rfl
  unfold fX12_better
  refine G_aload_n (x := a0) (pc := 0) dX12_better_0 rfl ?_
  refine G_iconst (pc := 1) dX12_better_1 ?_
  refine G_putI (j := 0) (pc := 2) dX12_better_2 rfl z_CLX12 (by decide) z_wX12_170 rfl (by decide) (by decide) (fun s1 => ?_)
  refine G_aload_n (x := a0) (pc := 5) dX12_better_5 rfl ?_
  refine G_iconst (pc := 6) dX12_better_6 ?_
  refine G_callVL (as := [vI 0]) (st := []) (c := 12) (bc2 := 0) (bs2 := 0) (pc := 7) dX12_better_7 z_mX12_costsBy z_vX12_costsBy z_wX12_435 (gX12_costsBy hst fu s1 a0 0) rfl rfl (by decide) rfl rfl ⟨by decide, by decide, by decide, by decide, Nat.le_of_ble_eq_true rfl⟩ rfl (fun x3 s2 => ?_)
  refine G_lstore_n (lv' := [vR a0, vL x3, vU]) (pc := 10) dX12_better_10 rfl ?_
  refine G_lload_n (x := x3) (pc := 11) dX12_better_11 rfl ?_
  refine G_aload_n (x := a0) (pc := 12) dX12_better_12 rfl ?_
  refine G_iconst (pc := 13) dX12_better_13 ?_
  refine G_callVL (as := [vI 1]) (st := [vL x3]) (c := 12) (bc2 := 0) (bs2 := 0) (pc := 14) dX12_better_14 z_mX12_costsBy z_vX12_costsBy z_wX12_435 (gX12_costsBy hst fu s2 a0 1) rfl rfl (by decide) rfl rfl ⟨by decide, by decide, by decide, by decide, Nat.le_of_ble_eq_true rfl⟩ rfl (fun x5 s4 => ?_)
  refine G_lsub (pc := 17) dX12_better_17 (fun x6 => ?_)
  exact G_lret (pc := 18) dX12_better_18
def fX12_turnsOver (fu : Nat) (s : z_M) (a0 : Int) : z_O := if z_ob a0 12 then z_let (z_gr a0 9) (fun x1 => if z_ob a0 12 then z_let (z_gr a0 9) (fun x2 => if z_ix x2 100 5 then z_let (s x2 5) (fun x3 => z_let (z_w (1 - x3)) (fun x4 => if z_ix x1 100 5 then z_let (z_up s x1 5 x4) (fun s5 => if z_ob a0 12 ∧ z_bl 0 then z_let (z_up s5 a0 36 0) (fun s6 => if z_ob a0 12 then z_bN (fX12_laysAll fu s6 a0) (fun s7 => some (vN, s7)) else none) else none) else none)) else none) else none) else none
theorem gX12_turnsOver {l : Launch} {K : z_K} (hst : l.stackTraces = false) (fu : Nat) (s : z_M) (a0 : Int) : z_D l K mX12_turnsOver 11 250 0 0 [vR a0] s (fX12_turnsOver fu s a0) := by
  refine z_D_of (lv := [vR a0]) hst z_mX12_turnsOver rfl ?_ (Nat.le_of_ble_eq_true rfl) rfl
  unfold fX12_turnsOver
  refine G_aload_n (x := a0) (pc := 0) dX12_turnsOver_0 rfl ?_
  refine G_getR (j := 9) (pc := 1) dX12_turnsOver_1 rfl z_CLX12 (by decide) z_wX12_20 (by decide) (fun x1 => ?_)
  refine G_iconst (pc := 4) dX12_turnsOver_4 ?_
  refine G_iconst (pc := 5) dX12_turnsOver_5 ?_
  refine G_aload_n (x := a0) (pc := 6) dX12_turnsOver_6 rfl ?_
  refine G_getR (j := 9) (pc := 7) dX12_turnsOver_7 rfl z_CLX12 (by decide) z_wX12_20 (by decide) (fun x2 => ?_)
  refine G_iconst (pc := 10) dX12_turnsOver_10 ?_
  refine G_iald (pc := 11) dX12_turnsOver_11 (fun x3 => ?_)
  refine G_isub (pc := 12) dX12_turnsOver_12 (fun x4 => ?_)
  refine G_iast (pc := 13) dX12_turnsOver_13 (fun s5 => ?_)
  refine G_aload_n (x := a0) (pc := 14) dX12_turnsOver_14 rfl ?_
  refine G_iconst (pc := 15) dX12_turnsOver_15 ?_
  refine G_putZ (j := 36) (pc := 16) dX12_turnsOver_16 rfl z_CLX12 (by decide) z_wX12_263 rfl (by decide) (fun s6 => ?_)
  refine G_aload_n (x := a0) (pc := 19) dX12_turnsOver_19 rfl ?_
  refine G_callVN (as := []) (st := []) (c := 12) (bc2 := 0) (bs2 := 0) (pc := 20) dX12_turnsOver_20 z_mX12_laysAll z_vX12_laysAll z_wX12_371 (gX12_laysAll hst fu s6 a0) rfl rfl (by decide) rfl rfl ⟨by decide, by decide, by decide, by decide, Nat.le_of_ble_eq_true rfl⟩ rfl (fun s7 => ?_)
  exact G_vret (pc := 23) dX12_turnsOver_23
def fX12_moves_L11 (fu : Nat) (a0 : Int) : Nat → z_M → Int → (z_M → z_O) → z_O
  | 0, _, _, _ => none
  | F + 1, s, a1, k => if z_ob a0 12 then z_let (s a0 20) (fun x3 => if (x3 : Int) ≤ a1 then (k s) else (if z_ob a0 12 then z_let (z_gr a0 65) (fun x4 => if z_ob a0 12 then z_let (z_gr a0 48) (fun x5 => if z_ix x5 100 a1 then z_let (s x5 a1) (fun x6 => if z_ix x4 100 a1 then z_let (z_up s x4 a1 x6) (fun s7 => z_let (z_w (a1 + 1)) (fun x8 => fX12_moves_L11 fu a0 F s7 x8 k)) else none) else none) else none) else none)) else none
theorem gX12_moves_L11 {l : Launch} {K : z_K} (hst : l.stackTraces = false) (fu : Nat) (a0 : Int) (k : z_M → z_O) (hk : ∀ (s : z_M), G l K mX12_moves 12 270 0 0 37 [vR a0, vU, vU] [] s (k s)) : ∀ (F : Nat) (s : z_M) (a1 : Int), G l K mX12_moves 12 270 0 0 11 [vR a0, vI a1, vU] [] s (fX12_moves_L11 fu a0 F s a1 k) := by
  intro F
  induction F with
  | zero => exact fun s a1 h => absurd rfl h
  | succ F ih =>
    intro s a1
    rw [fX12_moves_L11]
    refine G_iload_n (x := a1) (pc := 11) dX12_moves_11 rfl ?_
    refine G_aload_n (x := a0) (pc := 12) dX12_moves_12 rfl ?_
    refine G_getI (j := 20) (pc := 13) dX12_moves_13 rfl z_CLX12 (by decide) z_wX12_242 (by decide) (fun x3 => ?_)
    refine G_icmp_ge (tgt := 37) (pc := 16) dX12_moves_16 ?_ ?_
    · refine G_fg (lv2 := [vR a0, vU, vU]) ⟨Or.inr rfl, Or.inl rfl, Or.inl rfl, trivial⟩ ?_
      exact hk s
    · refine G_aload_n (x := a0) (pc := 19) dX12_moves_19 rfl ?_
      refine G_getR (j := 65) (pc := 20) dX12_moves_20 rfl z_CLX12 (by decide) z_wX12_164 (by decide) (fun x4 => ?_)
      refine G_iload_n (x := a1) (pc := 23) dX12_moves_23 rfl ?_
      refine G_aload_n (x := a0) (pc := 24) dX12_moves_24 rfl ?_
      refine G_getR (j := 48) (pc := 25) dX12_moves_25 rfl z_CLX12 (by decide) z_wX12_119 (by decide) (fun x5 => ?_)
      refine G_iload_n (x := a1) (pc := 28) dX12_moves_28 rfl ?_
      refine G_iald (pc := 29) dX12_moves_29 (fun x6 => ?_)
      refine G_iast (pc := 30) dX12_moves_30 (fun s7 => ?_)
      refine G_iinc (x := a1) (g := fun x8 => [vR a0, vI x8, vU]) (pc := 31) dX12_moves_31 rfl (fun _ => rfl) (fun x8 => ?_)
      refine G_goto (tgt := 11) (pc := 34) dX12_moves_34 ?_
      exact ih s7 x8
def fX12_moves_J79 (fu : Nat) (s : z_M) (a0 : Int) (a2 : Int) (t0 : Int) (t1 : Int) (r : z_M → Int → Int → z_O) (k : z_M → Int → z_O) : z_O := z_let (z_w (t0 + t1)) (fun x18 => z_let (z_w (a2 + 1)) (fun x19 => r s x18 x19))
theorem gX12_moves_J79 {l : Launch} {K : z_K} (hst : l.stackTraces = false) (fu : Nat) (s : z_M) (a0 : Int) (a2 : Int) (t0 : Int) (t1 : Int) (r : z_M → Int → Int → z_O) (k : z_M → Int → z_O) (hr : ∀ (s : z_M) (a1 : Int) (a2 : Int), G l K mX12_moves 12 270 0 0 45 [vR a0, vI a1, vI a2] [] s (r s a1 a2)) (hk : ∀ (s : z_M) (a1 : Int), G l K mX12_moves 12 270 0 0 87 [vR a0, vI a1, vU] [] s (k s a1)) : G l K mX12_moves 12 270 0 0 79 [vR a0, vU, vI a2] [vI t1, vI t0] s (fX12_moves_J79 fu s a0 a2 t0 t1 r k) := by
  unfold fX12_moves_J79
  refine G_iadd (pc := 79) dX12_moves_79 (fun x18 => ?_)
  refine G_istore_n (lv' := [vR a0, vI x18, vI a2]) (pc := 80) dX12_moves_80 rfl ?_
  refine G_iinc (x := a2) (g := fun x19 => [vR a0, vI x18, vI x19]) (pc := 81) dX12_moves_81 rfl (fun _ => rfl) (fun x19 => ?_)
  refine G_goto (tgt := 45) (pc := 84) dX12_moves_84 ?_
  exact hr s x18 x19
def fX12_moves_L45 (fu : Nat) (a0 : Int) : Nat → z_M → Int → Int → (z_M → Int → z_O) → z_O
  | 0, _, _, _, _ => none
  | F + 1, s, a1, a2, k => if z_ob a0 12 then z_let (s a0 20) (fun x11 => if (x11 : Int) ≤ a2 then (k s a1) else (if z_ob a0 12 then z_let (z_gr a0 48) (fun x12 => if z_ix x12 100 a2 then z_let (s x12 a2) (fun x13 => if z_ob a0 12 then z_let (z_gr a0 65) (fun x14 => if z_ix x14 100 a2 then z_let (s x14 a2) (fun x15 => if (x13 : Int) ≠ x15 then (if z_ob a0 12 then z_let (z_gr a0 23) (fun x16 => if z_ix x16 100 a2 then z_let (s x16 a2) (fun x17 => fX12_moves_J79 fu s a0 a2 a1 x17 (fun w v1 v2 => fX12_moves_L45 fu a0 F w v1 v2 k) k) else none) else none) else (fX12_moves_J79 fu s a0 a2 a1 0 (fun w v1 v2 => fX12_moves_L45 fu a0 F w v1 v2 k) k)) else none) else none) else none) else none)) else none
theorem gX12_moves_L45 {l : Launch} {K : z_K} (hst : l.stackTraces = false) (fu : Nat) (a0 : Int) (k : z_M → Int → z_O) (hk : ∀ (s : z_M) (a1 : Int), G l K mX12_moves 12 270 0 0 87 [vR a0, vI a1, vU] [] s (k s a1)) : ∀ (F : Nat) (s : z_M) (a1 : Int) (a2 : Int), G l K mX12_moves 12 270 0 0 45 [vR a0, vI a1, vI a2] [] s (fX12_moves_L45 fu a0 F s a1 a2 k) := by
  intro F
  induction F with
  | zero => exact fun s a1 a2 h => absurd rfl h
  | succ F ih =>
    intro s a1 a2
    rw [fX12_moves_L45]
    refine G_iload_n (x := a2) (pc := 45) dX12_moves_45 rfl ?_
    refine G_aload_n (x := a0) (pc := 46) dX12_moves_46 rfl ?_
    refine G_getI (j := 20) (pc := 47) dX12_moves_47 rfl z_CLX12 (by decide) z_wX12_242 (by decide) (fun x11 => ?_)
    refine G_icmp_ge (tgt := 87) (pc := 50) dX12_moves_50 ?_ ?_
    · refine G_fg (lv2 := [vR a0, vI a1, vU]) ⟨Or.inr rfl, Or.inr rfl, Or.inl rfl, trivial⟩ ?_
      exact hk s a1
    · refine G_iload_n (x := a1) (pc := 53) dX12_moves_53 rfl ?_
      refine G_aload_n (x := a0) (pc := 54) dX12_moves_54 rfl ?_
      refine G_getR (j := 48) (pc := 55) dX12_moves_55 rfl z_CLX12 (by decide) z_wX12_119 (by decide) (fun x12 => ?_)
      refine G_iload_n (x := a2) (pc := 58) dX12_moves_58 rfl ?_
      refine G_iald (pc := 59) dX12_moves_59 (fun x13 => ?_)
      refine G_aload_n (x := a0) (pc := 60) dX12_moves_60 rfl ?_
      refine G_getR (j := 65) (pc := 61) dX12_moves_61 rfl z_CLX12 (by decide) z_wX12_164 (by decide) (fun x14 => ?_)
      refine G_iload_n (x := a2) (pc := 64) dX12_moves_64 rfl ?_
      refine G_iald (pc := 65) dX12_moves_65 (fun x15 => ?_)
      refine G_icmp_ne (tgt := 73) (pc := 66) dX12_moves_66 ?_ ?_
      · refine G_aload_n (x := a0) (pc := 73) dX12_moves_73 rfl ?_
        refine G_getR (j := 23) (pc := 74) dX12_moves_74 rfl z_CLX12 (by decide) z_wX12_60 (by decide) (fun x16 => ?_)
        refine G_iload_n (x := a2) (pc := 77) dX12_moves_77 rfl ?_
        refine G_iald (pc := 78) dX12_moves_78 (fun x17 => ?_)
        refine G_fg (lv2 := [vR a0, vU, vI a2]) ⟨Or.inr rfl, Or.inl rfl, Or.inr rfl, trivial⟩ ?_
        exact gX12_moves_J79 hst fu s a0 a2 a1 x17 _ _ (fun w v1 v2 => ih w v1 v2) hk
      · refine G_iconst (pc := 69) dX12_moves_69 ?_
        refine G_goto (tgt := 79) (pc := 70) dX12_moves_70 ?_
        refine G_fg (lv2 := [vR a0, vU, vI a2]) ⟨Or.inr rfl, Or.inl rfl, Or.inr rfl, trivial⟩ ?_
        exact gX12_moves_J79 hst fu s a0 a2 a1 0 _ _ (fun w v1 v2 => ih w v1 v2) hk
def fX12_moves (fu : Nat) (s : z_M) (a0 : Int) : z_O := if z_ob a0 12 then z_let (z_up s a0 0 0) (fun s1 => if z_ob a0 12 then z_bN (fX12_laysAll fu s1 a0) (fun s2 => fX12_moves_L11 fu a0 fu s2 0 (fun s9 => if z_ob a0 12 then z_bN (fX12_turnsOver fu s9 a0) (fun s10 => fX12_moves_L45 fu a0 fu s10 0 0 (fun s20 x21 => if z_ob a0 12 then z_bN (fX12_turnsOver fu s20 a0) (fun s22 => some (vI x21, s22)) else none)) else none)) else none) else none
theorem gX12_moves {l : Launch} {K : z_K} (hst : l.stackTraces = false) (fu : Nat) (s : z_M) (a0 : Int) : z_D l K mX12_moves 12 270 0 0 [vR a0] s (fX12_moves fu s a0) := by
  refine z_D_of (lv := [vR a0, vU, vU]) hst z_mX12_moves rfl ?_ (Nat.le_of_ble_eq_true rfl) rfl
  unfold fX12_moves
  refine G_aload_n (x := a0) (pc := 0) dX12_moves_0 rfl ?_
  refine G_iconst (pc := 1) dX12_moves_1 ?_
  refine G_putI (j := 0) (pc := 2) dX12_moves_2 rfl z_CLX12 (by decide) z_wX12_170 rfl (by decide) (by decide) (fun s1 => ?_)
  refine G_aload_n (x := a0) (pc := 5) dX12_moves_5 rfl ?_
  refine G_callVN (as := []) (st := []) (c := 12) (bc2 := 0) (bs2 := 0) (pc := 6) dX12_moves_6 z_mX12_laysAll z_vX12_laysAll z_wX12_371 (gX12_laysAll hst fu s1 a0) rfl rfl (by decide) rfl rfl ⟨by decide, by decide, by decide, by decide, Nat.le_of_ble_eq_true rfl⟩ rfl (fun s2 => ?_)
  refine G_iconst (pc := 9) dX12_moves_9 ?_
  refine G_istore_n (lv' := [vR a0, vI 0, vU]) (pc := 10) dX12_moves_10 rfl ?_
  refine gX12_moves_L11 hst fu a0 _ (fun s9 => ?_) fu s2 0
  refine G_aload_n (x := a0) (pc := 37) dX12_moves_37 rfl ?_
  refine G_callVN (as := []) (st := []) (c := 12) (bc2 := 0) (bs2 := 0) (pc := 38) dX12_moves_38 z_mX12_turnsOver z_vX12_turnsOver z_wX12_439 (gX12_turnsOver hst fu s9 a0) rfl rfl (by decide) rfl rfl ⟨by decide, by decide, by decide, by decide, Nat.le_of_ble_eq_true rfl⟩ rfl (fun s10 => ?_)
  refine G_iconst (pc := 41) dX12_moves_41 ?_
  refine G_istore_n (lv' := [vR a0, vI 0, vU]) (pc := 42) dX12_moves_42 rfl ?_
  refine G_iconst (pc := 43) dX12_moves_43 ?_
  refine G_istore_n (lv' := [vR a0, vI 0, vI 0]) (pc := 44) dX12_moves_44 rfl ?_
  refine gX12_moves_L45 hst fu a0 _ (fun s20 x21 => ?_) fu s10 0 0
  refine G_aload_n (x := a0) (pc := 87) dX12_moves_87 rfl ?_
  refine G_callVN (as := []) (st := []) (c := 12) (bc2 := 0) (bs2 := 0) (pc := 88) dX12_moves_88 z_mX12_turnsOver z_vX12_turnsOver z_wX12_439 (gX12_turnsOver hst fu s20 a0) rfl rfl (by decide) rfl rfl ⟨by decide, by decide, by decide, by decide, Nat.le_of_ble_eq_true rfl⟩ rfl (fun s22 => ?_)
  refine G_iload_n (x := x21) (pc := 91) dX12_moves_91 rfl ?_
  exact G_iret (pc := 92) dX12_moves_92
def fX12_lend_J107 (fu : Nat) (s : z_M) (a0 : Int) (a1 : Int) (a2 : Int) (a3 : Int) (a4 : Int) (a5 : Int) (r : z_M → Int → Int → Int → z_O) (k : z_M → Int → Int → z_O) : z_O := z_let (z_w (a5 + 1)) (fun x15 => r s a3 a4 x15)
theorem gX12_lend_J107 {l : Launch} {K : z_K} (hst : l.stackTraces = false) (fu : Nat) (s : z_M) (a0 : Int) (a1 : Int) (a2 : Int) (a3 : Int) (a4 : Int) (a5 : Int) (r : z_M → Int → Int → Int → z_O) (k : z_M → Int → Int → z_O) (hr : ∀ (s : z_M) (a3 : Int) (a4 : Int) (a5 : Int), G l K mX12_lend 5 115 0 0 45 [vR a0, vI a1, vI a2, vI a3, vI a4, vI a5, vU] [] s (r s a3 a4 a5)) (hk : ∀ (s : z_M) (a3 : Int) (a4 : Int), G l K mX12_lend 5 115 0 0 113 [vR a0, vI a1, vI a2, vI a3, vI a4, vU, vU] [] s (k s a3 a4)) : G l K mX12_lend 5 115 0 0 107 [vR a0, vI a1, vI a2, vI a3, vI a4, vI a5, vU] [] s (fX12_lend_J107 fu s a0 a1 a2 a3 a4 a5 r k) := by
  unfold fX12_lend_J107
  refine G_iinc (x := a5) (g := fun x15 => [vR a0, vI a1, vI a2, vI a3, vI a4, vI x15, vU]) (pc := 107) dX12_lend_107 rfl (fun _ => rfl) (fun x15 => ?_)
  refine G_goto (tgt := 45) (pc := 110) dX12_lend_110 ?_
  exact hr s a3 a4 x15
def fX12_lend_J100 (fu : Nat) (s : z_M) (a0 : Int) (a1 : Int) (a2 : Int) (a5 : Int) (a6 : Int) (r : z_M → Int → Int → Int → z_O) (k : z_M → Int → Int → z_O) : z_O := fX12_lend_J107 fu s a0 a1 a2 a5 a6 a5 (fun w v3 v4 v5 => r w v3 v4 v5) k
theorem gX12_lend_J100 {l : Launch} {K : z_K} (hst : l.stackTraces = false) (fu : Nat) (s : z_M) (a0 : Int) (a1 : Int) (a2 : Int) (a5 : Int) (a6 : Int) (r : z_M → Int → Int → Int → z_O) (k : z_M → Int → Int → z_O) (hr : ∀ (s : z_M) (a3 : Int) (a4 : Int) (a5 : Int), G l K mX12_lend 5 115 0 0 45 [vR a0, vI a1, vI a2, vI a3, vI a4, vI a5, vU] [] s (r s a3 a4 a5)) (hk : ∀ (s : z_M) (a3 : Int) (a4 : Int), G l K mX12_lend 5 115 0 0 113 [vR a0, vI a1, vI a2, vI a3, vI a4, vU, vU] [] s (k s a3 a4)) : G l K mX12_lend 5 115 0 0 100 [vR a0, vI a1, vI a2, vU, vU, vI a5, vI a6] [] s (fX12_lend_J100 fu s a0 a1 a2 a5 a6 r k) := by
  unfold fX12_lend_J100
  refine G_iload (x := a5) (pc := 100) dX12_lend_100 rfl ?_
  refine G_istore_n (lv' := [vR a0, vI a1, vI a2, vI a5, vU, vI a5, vI a6]) (pc := 102) dX12_lend_102 rfl ?_
  refine G_iload (x := a6) (pc := 103) dX12_lend_103 rfl ?_
  refine G_istore (lv' := [vR a0, vI a1, vI a2, vI a5, vI a6, vI a5, vI a6]) (pc := 105) dX12_lend_105 rfl ?_
  refine G_fg (lv2 := [vR a0, vI a1, vI a2, vI a5, vI a6, vI a5, vU]) ⟨Or.inr rfl, Or.inr rfl, Or.inr rfl, Or.inr rfl, Or.inr rfl, Or.inr rfl, Or.inl rfl, trivial⟩ ?_
  exact gX12_lend_J107 hst fu s a0 a1 a2 a5 a6 a5 _ _ (fun w v3 v4 v5 => hr w v3 v4 v5) hk
def fX12_lend_J82 (fu : Nat) (s : z_M) (a0 : Int) (a1 : Int) (a2 : Int) (a3 : Int) (a4 : Int) (a5 : Int) (t0 : Int) (r : z_M → Int → Int → Int → z_O) (k : z_M → Int → Int → z_O) : z_O := if (a4 : Int) = (-1) then (fX12_lend_J100 fu s a0 a1 a2 a5 t0 (fun w v3 v4 v5 => r w v3 v4 v5) k) else (if (t0 : Int) < a4 then (fX12_lend_J100 fu s a0 a1 a2 a5 t0 (fun w v3 v4 v5 => r w v3 v4 v5) k) else (fX12_lend_J107 fu s a0 a1 a2 a3 a4 a5 (fun w v3 v4 v5 => r w v3 v4 v5) k))
theorem gX12_lend_J82 {l : Launch} {K : z_K} (hst : l.stackTraces = false) (fu : Nat) (s : z_M) (a0 : Int) (a1 : Int) (a2 : Int) (a3 : Int) (a4 : Int) (a5 : Int) (t0 : Int) (r : z_M → Int → Int → Int → z_O) (k : z_M → Int → Int → z_O) (hr : ∀ (s : z_M) (a3 : Int) (a4 : Int) (a5 : Int), G l K mX12_lend 5 115 0 0 45 [vR a0, vI a1, vI a2, vI a3, vI a4, vI a5, vU] [] s (r s a3 a4 a5)) (hk : ∀ (s : z_M) (a3 : Int) (a4 : Int), G l K mX12_lend 5 115 0 0 113 [vR a0, vI a1, vI a2, vI a3, vI a4, vU, vU] [] s (k s a3 a4)) : G l K mX12_lend 5 115 0 0 82 [vR a0, vI a1, vI a2, vI a3, vI a4, vI a5, vU] [vI t0] s (fX12_lend_J82 fu s a0 a1 a2 a3 a4 a5 t0 r k) := by
  unfold fX12_lend_J82
  refine G_istore (lv' := [vR a0, vI a1, vI a2, vI a3, vI a4, vI a5, vI t0]) (pc := 82) dX12_lend_82 rfl ?_
  refine G_iload (x := a4) (pc := 84) dX12_lend_84 rfl ?_
  refine G_iconst (pc := 86) dX12_lend_86 ?_
  refine G_icmp_eq (tgt := 100) (pc := 87) dX12_lend_87 ?_ ?_
  · refine G_fg (lv2 := [vR a0, vI a1, vI a2, vU, vU, vI a5, vI t0]) ⟨Or.inr rfl, Or.inr rfl, Or.inr rfl, Or.inl rfl, Or.inl rfl, Or.inr rfl, Or.inr rfl, trivial⟩ ?_
    exact gX12_lend_J100 hst fu s a0 a1 a2 a5 t0 _ _ (fun w v3 v4 v5 => hr w v3 v4 v5) hk
  · refine G_iload (x := t0) (pc := 90) dX12_lend_90 rfl ?_
    refine G_iload (x := a4) (pc := 92) dX12_lend_92 rfl ?_
    refine G_icmp_lt (tgt := 100) (pc := 94) dX12_lend_94 ?_ ?_
    · refine G_fg (lv2 := [vR a0, vI a1, vI a2, vU, vU, vI a5, vI t0]) ⟨Or.inr rfl, Or.inr rfl, Or.inr rfl, Or.inl rfl, Or.inl rfl, Or.inr rfl, Or.inr rfl, trivial⟩ ?_
      exact gX12_lend_J100 hst fu s a0 a1 a2 a5 t0 _ _ (fun w v3 v4 v5 => hr w v3 v4 v5) hk
    · refine G_goto (tgt := 107) (pc := 97) dX12_lend_97 ?_
      refine G_fg (lv2 := [vR a0, vI a1, vI a2, vI a3, vI a4, vI a5, vU]) ⟨Or.inr rfl, Or.inr rfl, Or.inr rfl, Or.inr rfl, Or.inr rfl, Or.inr rfl, Or.inl rfl, trivial⟩ ?_
      exact gX12_lend_J107 hst fu s a0 a1 a2 a3 a4 a5 _ _ (fun w v3 v4 v5 => hr w v3 v4 v5) hk
def fX12_lend_L45 (fu : Nat) (a0 : Int) (a1 : Int) (a2 : Int) : Nat → z_M → Int → Int → Int → (z_M → Int → Int → z_O) → z_O
  | 0, _, _, _, _, _ => none
  | F + 1, s, a3, a4, a5, k => if (6 : Int) < a5 then (k s a3 a4) else (if z_ob a0 12 then z_let (z_gr a0 9) (fun x8 => if z_ix x8 100 2 then z_let (z_up s x8 2 a5) (fun s9 => if z_ob a0 12 then z_let (s9 a0 20) (fun x10 => if (x10 : Int) ≠ 0 then (if z_ob a0 12 then z_let (s9 a0 20) (fun x11 => z_let (z_w (x11 - 1)) (fun x12 => if z_ob a0 12 then z_bI (fX12_lays fu s9 a0 0 x12) (fun x14 s13 => fX12_lend_J82 fu s13 a0 a1 a2 a3 a4 a5 x14 (fun w v3 v4 v5 => fX12_lend_L45 fu a0 a1 a2 F w v3 v4 v5 k) k) else none)) else none) else (fX12_lend_J82 fu s9 a0 a1 a2 a3 a4 a5 0 (fun w v3 v4 v5 => fX12_lend_L45 fu a0 a1 a2 F w v3 v4 v5 k) k)) else none) else none) else none)
theorem gX12_lend_L45 {l : Launch} {K : z_K} (hst : l.stackTraces = false) (fu : Nat) (a0 : Int) (a1 : Int) (a2 : Int) (k : z_M → Int → Int → z_O) (hk : ∀ (s : z_M) (a3 : Int) (a4 : Int), G l K mX12_lend 5 115 0 0 113 [vR a0, vI a1, vI a2, vI a3, vI a4, vU, vU] [] s (k s a3 a4)) : ∀ (F : Nat) (s : z_M) (a3 : Int) (a4 : Int) (a5 : Int), G l K mX12_lend 5 115 0 0 45 [vR a0, vI a1, vI a2, vI a3, vI a4, vI a5, vU] [] s (fX12_lend_L45 fu a0 a1 a2 F s a3 a4 a5 k) := by
  intro F
  induction F with
  | zero => exact fun s a3 a4 a5 h => absurd rfl h
  | succ F ih =>
    intro s a3 a4 a5
    rw [fX12_lend_L45]
    refine G_iload (x := a5) (pc := 45) dX12_lend_45 rfl ?_
    refine G_bipush (pc := 47) dX12_lend_47 ?_
    refine G_icmp_gt (tgt := 113) (pc := 49) dX12_lend_49 ?_ ?_
    · refine G_fg (lv2 := [vR a0, vI a1, vI a2, vI a3, vI a4, vU, vU]) ⟨Or.inr rfl, Or.inr rfl, Or.inr rfl, Or.inr rfl, Or.inr rfl, Or.inl rfl, Or.inl rfl, trivial⟩ ?_
      exact hk s a3 a4
    · refine G_aload_n (x := a0) (pc := 52) dX12_lend_52 rfl ?_
      refine G_getR (j := 9) (pc := 53) dX12_lend_53 rfl z_CLX12 (by decide) z_wX12_20 (by decide) (fun x8 => ?_)
      refine G_iconst (pc := 56) dX12_lend_56 ?_
      refine G_iload (x := a5) (pc := 57) dX12_lend_57 rfl ?_
      refine G_iast (pc := 59) dX12_lend_59 (fun s9 => ?_)
      refine G_aload_n (x := a0) (pc := 60) dX12_lend_60 rfl ?_
      refine G_getI (j := 20) (pc := 61) dX12_lend_61 rfl z_CLX12 (by decide) z_wX12_242 (by decide) (fun x10 => ?_)
      refine G_if_ne (tgt := 71) (pc := 64) dX12_lend_64 ?_ ?_
      · refine G_aload_n (x := a0) (pc := 71) dX12_lend_71 rfl ?_
        refine G_iconst (pc := 72) dX12_lend_72 ?_
        refine G_aload_n (x := a0) (pc := 73) dX12_lend_73 rfl ?_
        refine G_getI (j := 20) (pc := 74) dX12_lend_74 rfl z_CLX12 (by decide) z_wX12_242 (by decide) (fun x11 => ?_)
        refine G_iconst (pc := 77) dX12_lend_77 ?_
        refine G_isub (pc := 78) dX12_lend_78 (fun x12 => ?_)
        refine G_callVI (as := [vI 0, vI x12]) (st := []) (c := 12) (bc2 := 0) (bs2 := 0) (pc := 79) dX12_lend_79 z_mX12_lays z_vX12_lays z_wX12_329 (gX12_lays hst fu s9 a0 0 x12) rfl rfl (by decide) rfl rfl ⟨by decide, by decide, by decide, by decide, Nat.le_of_ble_eq_true rfl⟩ rfl (fun x14 s13 => ?_)
        exact gX12_lend_J82 hst fu s13 a0 a1 a2 a3 a4 a5 x14 _ _ (fun w v3 v4 v5 => ih w v3 v4 v5) hk
      · refine G_iconst (pc := 67) dX12_lend_67 ?_
        refine G_goto (tgt := 82) (pc := 68) dX12_lend_68 ?_
        exact gX12_lend_J82 hst fu s9 a0 a1 a2 a3 a4 a5 0 _ _ (fun w v3 v4 v5 => ih w v3 v4 v5) hk
def fX12_lend_J135 (fu : Nat) (s : z_M) (t0 : Int) : z_O := some (vI t0, s)
theorem gX12_lend_J135 {l : Launch} {K : z_K} (hst : l.stackTraces = false) (fu : Nat) (s : z_M) (t0 : Int) : G l K mX12_lend 5 115 0 0 135 [vU, vU, vU, vU, vU, vU, vU] [vI t0] s (fX12_lend_J135 fu s t0) := by
  unfold fX12_lend_J135
  exact G_iret (pc := 135) dX12_lend_135
def fX12_lend_J20 (fu : Nat) (s : z_M) (a0 : Int) (a1 : Int) (t0 : Int) (t1 : Int) : z_O := if z_ob t0 12 then z_bI (fX12_bad fu s t0 t1 1 1) (fun x5 s4 => if (x5 : Int) = 0 then (if z_ob a0 12 then z_let (z_gr a0 9) (fun x6 => if z_ix x6 100 2 then z_let (s4 x6 2) (fun x7 => fX12_lend_L45 fu a0 a1 x7 fu s4 0 (-1) 0 (fun s16 x17 x18 => if z_ob a0 12 then z_let (z_gr a0 9) (fun x19 => if z_ix x19 100 2 then z_let (z_up s16 x19 2 x7) (fun s20 => if z_ob a0 12 ∧ z_bl 0 then z_let (z_up s20 a0 43 0) (fun s21 => if (a1 : Int) ≠ 0 then (fX12_lend_J135 fu s21 x18) else (fX12_lend_J135 fu s21 x17)) else none) else none) else none)) else none) else none) else (some (vI 0, s4))) else none
theorem gX12_lend_J20 {l : Launch} {K : z_K} (hst : l.stackTraces = false) (fu : Nat) (s : z_M) (a0 : Int) (a1 : Int) (t0 : Int) (t1 : Int) : G l K mX12_lend 5 115 0 0 20 [vR a0, vI a1, vU, vU, vU, vU, vU] [vI t1, vR t0] s (fX12_lend_J20 fu s a0 a1 t0 t1) := by
  unfold fX12_lend_J20
  refine G_iconst (pc := 20) dX12_lend_20 ?_
  refine G_iconst (pc := 21) dX12_lend_21 ?_
  refine G_callVI (as := [vI t1, vI 1, vI 1]) (st := []) (c := 12) (bc2 := 0) (bs2 := 0) (pc := 22) dX12_lend_22 z_mX12_bad z_vX12_bad z_wX12_249 (gX12_bad hst fu s t0 t1 1 1) rfl rfl (by decide) rfl rfl ⟨by decide, by decide, by decide, by decide, Nat.le_of_ble_eq_true rfl⟩ rfl (fun x5 s4 => ?_)
  refine G_if_eq (tgt := 30) (pc := 25) dX12_lend_25 ?_ ?_
  · refine G_aload_n (x := a0) (pc := 30) dX12_lend_30 rfl ?_
    refine G_getR (j := 9) (pc := 31) dX12_lend_31 rfl z_CLX12 (by decide) z_wX12_20 (by decide) (fun x6 => ?_)
    refine G_iconst (pc := 34) dX12_lend_34 ?_
    refine G_iald (pc := 35) dX12_lend_35 (fun x7 => ?_)
    refine G_istore_n (lv' := [vR a0, vI a1, vI x7, vU, vU, vU, vU]) (pc := 36) dX12_lend_36 rfl ?_
    refine G_iconst (pc := 37) dX12_lend_37 ?_
    refine G_istore_n (lv' := [vR a0, vI a1, vI x7, vI 0, vU, vU, vU]) (pc := 38) dX12_lend_38 rfl ?_
    refine G_iconst (pc := 39) dX12_lend_39 ?_
    refine G_istore (lv' := [vR a0, vI a1, vI x7, vI 0, vI (-1), vU, vU]) (pc := 40) dX12_lend_40 rfl ?_
    refine G_iconst (pc := 42) dX12_lend_42 ?_
    refine G_istore (lv' := [vR a0, vI a1, vI x7, vI 0, vI (-1), vI 0, vU]) (pc := 43) dX12_lend_43 rfl ?_
    refine gX12_lend_L45 hst fu a0 a1 x7 _ (fun s16 x17 x18 => ?_) fu s4 0 (-1) 0
    refine G_aload_n (x := a0) (pc := 113) dX12_lend_113 rfl ?_
    refine G_getR (j := 9) (pc := 114) dX12_lend_114 rfl z_CLX12 (by decide) z_wX12_20 (by decide) (fun x19 => ?_)
    refine G_iconst (pc := 117) dX12_lend_117 ?_
    refine G_iload_n (x := x7) (pc := 118) dX12_lend_118 rfl ?_
    refine G_iast (pc := 119) dX12_lend_119 (fun s20 => ?_)
    refine G_aload_n (x := a0) (pc := 120) dX12_lend_120 rfl ?_
    refine G_iconst (pc := 121) dX12_lend_121 ?_
    refine G_putZ (j := 43) (pc := 122) dX12_lend_122 rfl z_CLX12 (by decide) z_wX12_323 rfl (by decide) (fun s21 => ?_)
    refine G_iload_n (x := a1) (pc := 125) dX12_lend_125 rfl ?_
    refine G_if_ne (tgt := 133) (pc := 126) dX12_lend_126 ?_ ?_
    · refine G_iload (x := x18) (pc := 133) dX12_lend_133 rfl ?_
      refine G_fg (lv2 := [vU, vU, vU, vU, vU, vU, vU]) ⟨Or.inl rfl, Or.inl rfl, Or.inl rfl, Or.inl rfl, Or.inl rfl, Or.inl rfl, Or.inl rfl, trivial⟩ ?_
      exact gX12_lend_J135 hst fu s21 x18
    · refine G_iload_n (x := x17) (pc := 129) dX12_lend_129 rfl ?_
      refine G_goto (tgt := 135) (pc := 130) dX12_lend_130 ?_
      refine G_fg (lv2 := [vU, vU, vU, vU, vU, vU, vU]) ⟨Or.inl rfl, Or.inl rfl, Or.inl rfl, Or.inl rfl, Or.inl rfl, Or.inl rfl, Or.inl rfl, trivial⟩ ?_
      exact gX12_lend_J135 hst fu s21 x17
  · refine G_iconst (pc := 28) dX12_lend_28 ?_
    exact G_iret (pc := 29) dX12_lend_29
def fX12_lend (fu : Nat) (s : z_M) (a0 : Int) (a1 : Int) : z_O := if z_ob a0 12 then z_let (z_up s a0 0 0) (fun s1 => z_bI (fX12_in fu s1 a1 0 1) (fun x3 s2 => if (x3 : Int) ≠ 0 then (fX12_lend_J20 fu s2 a0 a1 a0 0) else (fX12_lend_J20 fu s2 a0 a1 a0 1))) else none
theorem gX12_lend {l : Launch} {K : z_K} (hst : l.stackTraces = false) (fu : Nat) (s : z_M) (a0 : Int) (a1 : Int) : z_D l K mX12_lend 5 115 0 0 [vR a0, vI a1] s (fX12_lend fu s a0 a1) := by
  refine z_D_of (lv := [vR a0, vI a1, vU, vU, vU, vU, vU]) hst z_mX12_lend rfl ?_ (Nat.le_of_ble_eq_true rfl) rfl
  unfold fX12_lend
  refine G_aload_n (x := a0) (pc := 0) dX12_lend_0 rfl ?_
  refine G_iconst (pc := 1) dX12_lend_1 ?_
  refine G_putI (j := 0) (pc := 2) dX12_lend_2 rfl z_CLX12 (by decide) z_wX12_170 rfl (by decide) (by decide) (fun s1 => ?_)
  refine G_aload_n (x := a0) (pc := 5) dX12_lend_5 rfl ?_
  refine G_iload_n (x := a1) (pc := 6) dX12_lend_6 rfl ?_
  refine G_iconst (pc := 7) dX12_lend_7 ?_
  refine G_iconst (pc := 8) dX12_lend_8 ?_
  refine G_callSI (as := [vI a1, vI 0, vI 1]) (st := [vR a0]) (bc2 := 0) (bs2 := 0) (pc := 9) dX12_lend_9 z_mX12_in z_sX12_in z_wX12_245 (gX12_in hst fu s1 a1 0 1) rfl rfl ⟨by decide, by decide, by decide, by decide, Nat.le_of_ble_eq_true rfl⟩ rfl (fun x3 s2 => ?_)
  refine G_if_ne (tgt := 19) (pc := 12) dX12_lend_12 ?_ ?_
  · refine G_iconst (pc := 19) dX12_lend_19 ?_
    exact gX12_lend_J20 hst fu s2 a0 a1 a0 0
  · refine G_iconst (pc := 15) dX12_lend_15 ?_
    refine G_goto (tgt := 20) (pc := 16) dX12_lend_16 ?_
    exact gX12_lend_J20 hst fu s2 a0 a1 a0 1
def fX12_lineOfBlock (fu : Nat) (s : z_M) (a0 : Int) (a1 : Int) : z_O := if z_ob a0 12 then z_let (z_gr a0 48) (fun x1 => if z_ob a0 12 then z_let (z_gr a0 59) (fun x2 => if z_ix x2 103 a1 then z_let (z_gr x2 a1) (fun x3 => if z_ix x3 100 0 then z_let (s x3 0) (fun x4 => if z_ix x1 100 x4 then z_let (s x1 x4) (fun x5 => some (vI x5, s)) else none) else none) else none) else none) else none
theorem gX12_lineOfBlock {l : Launch} {K : z_K} (hst : l.stackTraces = false) (fu : Nat) (s : z_M) (a0 : Int) (a1 : Int) : z_D l K mX12_lineOfBlock 0 0 0 0 [vR a0, vI a1] s (fX12_lineOfBlock fu s a0 a1) := by
  refine z_D_of (lv := [vR a0, vI a1]) hst z_mX12_lineOfBlock rfl ?_ (Nat.le_of_ble_eq_true rfl) rfl
  unfold fX12_lineOfBlock
  refine G_aload_n (x := a0) (pc := 0) dX12_lineOfBlock_0 rfl ?_
  refine G_getR (j := 48) (pc := 1) dX12_lineOfBlock_1 rfl z_CLX12 (by decide) z_wX12_119 (by decide) (fun x1 => ?_)
  refine G_aload_n (x := a0) (pc := 4) dX12_lineOfBlock_4 rfl ?_
  refine G_getR (j := 59) (pc := 5) dX12_lineOfBlock_5 rfl z_CLX12 (by decide) z_wX12_149 (by decide) (fun x2 => ?_)
  refine G_iload_n (x := a1) (pc := 8) dX12_lineOfBlock_8 rfl ?_
  refine G_aald103 (pc := 9) dX12_lineOfBlock_9 (fun x3 => ?_)
  refine G_iconst (pc := 10) dX12_lineOfBlock_10 ?_
  refine G_iald (pc := 11) dX12_lineOfBlock_11 (fun x4 => ?_)
  refine G_iald (pc := 12) dX12_lineOfBlock_12 (fun x5 => ?_)
  exact G_iret (pc := 13) dX12_lineOfBlock_13
def fX12_nextBlock_L4 (fu : Nat) (a0 : Int) (a1 : Int) (a2 : Int) : Nat → z_M → Int → (z_M → z_O) → z_O
  | 0, _, _, _ => none
  | F + 1, s, a3, k => if z_ob a0 12 then z_let (s a0 58) (fun x2 => if (x2 : Int) ≤ a3 then (k s) else (if z_ob a0 12 then z_bI (fX12_lineOfBlock fu s a0 a3) (fun x4 s3 => if z_ob a0 12 then z_bI (fX12_lineOfBlock fu s3 a0 a1) (fun x6 s5 => if (x4 : Int) ≠ x6 then (k s5) else (if z_ob a0 12 then z_bI (fX12_lettersIn fu s5 a0 a3 a2) (fun x8 s7 => if (x8 : Int) ≤ 0 then (z_let (z_w (a3 + 1)) (fun x9 => fX12_nextBlock_L4 fu a0 a1 a2 F s7 x9 k)) else (some (vI a3, s7))) else none)) else none) else none)) else none
theorem gX12_nextBlock_L4 {l : Launch} {K : z_K} (hst : l.stackTraces = false) (fu : Nat) (a0 : Int) (a1 : Int) (a2 : Int) (k : z_M → z_O) (hk : ∀ (s : z_M), G l K mX12_nextBlock 2 46 0 0 42 [vU, vU, vU, vU] [] s (k s)) : ∀ (F : Nat) (s : z_M) (a3 : Int), G l K mX12_nextBlock 2 46 0 0 4 [vR a0, vI a1, vI a2, vI a3] [] s (fX12_nextBlock_L4 fu a0 a1 a2 F s a3 k) := by
  intro F
  induction F with
  | zero => exact fun s a3 h => absurd rfl h
  | succ F ih =>
    intro s a3
    rw [fX12_nextBlock_L4]
    refine G_iload_n (x := a3) (pc := 4) dX12_nextBlock_4 rfl ?_
    refine G_aload_n (x := a0) (pc := 5) dX12_nextBlock_5 rfl ?_
    refine G_getI (j := 58) (pc := 6) dX12_nextBlock_6 rfl z_CLX12 (by decide) z_wX12_359 (by decide) (fun x2 => ?_)
    refine G_icmp_ge (tgt := 42) (pc := 9) dX12_nextBlock_9 ?_ ?_
    · refine G_fg (lv2 := [vU, vU, vU, vU]) ⟨Or.inl rfl, Or.inl rfl, Or.inl rfl, Or.inl rfl, trivial⟩ ?_
      exact hk s
    · refine G_aload_n (x := a0) (pc := 12) dX12_nextBlock_12 rfl ?_
      refine G_iload_n (x := a3) (pc := 13) dX12_nextBlock_13 rfl ?_
      refine G_callVI (as := [vI a3]) (st := []) (c := 12) (bc2 := 0) (bs2 := 0) (pc := 14) dX12_nextBlock_14 z_mX12_lineOfBlock z_vX12_lineOfBlock z_wX12_442 (gX12_lineOfBlock hst fu s a0 a3) rfl rfl (by decide) rfl rfl ⟨by decide, by decide, by decide, by decide, Nat.le_of_ble_eq_true rfl⟩ rfl (fun x4 s3 => ?_)
      refine G_aload_n (x := a0) (pc := 17) dX12_nextBlock_17 rfl ?_
      refine G_iload_n (x := a1) (pc := 18) dX12_nextBlock_18 rfl ?_
      refine G_callVI (as := [vI a1]) (st := [vI x4]) (c := 12) (bc2 := 0) (bs2 := 0) (pc := 19) dX12_nextBlock_19 z_mX12_lineOfBlock z_vX12_lineOfBlock z_wX12_442 (gX12_lineOfBlock hst fu s3 a0 a1) rfl rfl (by decide) rfl rfl ⟨by decide, by decide, by decide, by decide, Nat.le_of_ble_eq_true rfl⟩ rfl (fun x6 s5 => ?_)
      refine G_icmp_ne (tgt := 42) (pc := 22) dX12_nextBlock_22 ?_ ?_
      · refine G_fg (lv2 := [vU, vU, vU, vU]) ⟨Or.inl rfl, Or.inl rfl, Or.inl rfl, Or.inl rfl, trivial⟩ ?_
        exact hk s5
      · refine G_aload_n (x := a0) (pc := 25) dX12_nextBlock_25 rfl ?_
        refine G_iload_n (x := a3) (pc := 26) dX12_nextBlock_26 rfl ?_
        refine G_iload_n (x := a2) (pc := 27) dX12_nextBlock_27 rfl ?_
        refine G_callVI (as := [vI a3, vI a2]) (st := []) (c := 12) (bc2 := 0) (bs2 := 0) (pc := 28) dX12_nextBlock_28 z_mX12_lettersIn z_vX12_lettersIn z_wX12_393 (gX12_lettersIn hst fu s5 a0 a3 a2) rfl rfl (by decide) rfl rfl ⟨by decide, by decide, by decide, by decide, Nat.le_of_ble_eq_true rfl⟩ rfl (fun x8 s7 => ?_)
        refine G_if_le (tgt := 36) (pc := 31) dX12_nextBlock_31 ?_ ?_
        · refine G_iinc (x := a3) (g := fun x9 => [vR a0, vI a1, vI a2, vI x9]) (pc := 36) dX12_nextBlock_36 rfl (fun _ => rfl) (fun x9 => ?_)
          refine G_goto (tgt := 4) (pc := 39) dX12_nextBlock_39 ?_
          exact ih s7 x9
        · refine G_iload_n (x := a3) (pc := 34) dX12_nextBlock_34 rfl ?_
          exact G_iret (pc := 35) dX12_nextBlock_35
def fX12_nextBlock_J42 (fu : Nat) (s : z_M) : z_O := some (vI (-1), s)
theorem gX12_nextBlock_J42 {l : Launch} {K : z_K} (hst : l.stackTraces = false) (fu : Nat) (s : z_M) : G l K mX12_nextBlock 2 46 0 0 42 [vU, vU, vU, vU] [] s (fX12_nextBlock_J42 fu s) := by
  unfold fX12_nextBlock_J42
  refine G_iconst (pc := 42) dX12_nextBlock_42 ?_
  exact G_iret (pc := 43) dX12_nextBlock_43
def fX12_nextBlock (fu : Nat) (s : z_M) (a0 : Int) (a1 : Int) (a2 : Int) : z_O := z_let (z_w (a1 + 1)) (fun x1 => fX12_nextBlock_L4 fu a0 a1 a2 fu s x1 (fun s10 => fX12_nextBlock_J42 fu s10))
theorem gX12_nextBlock {l : Launch} {K : z_K} (hst : l.stackTraces = false) (fu : Nat) (s : z_M) (a0 : Int) (a1 : Int) (a2 : Int) : z_D l K mX12_nextBlock 2 46 0 0 [vR a0, vI a1, vI a2] s (fX12_nextBlock fu s a0 a1 a2) := by
  refine z_D_of (lv := [vR a0, vI a1, vI a2, vU]) hst z_mX12_nextBlock rfl ?_ (Nat.le_of_ble_eq_true rfl) rfl
  unfold fX12_nextBlock
  refine G_iload_n (x := a1) (pc := 0) dX12_nextBlock_0 rfl ?_
  refine G_iconst (pc := 1) dX12_nextBlock_1 ?_
  refine G_iadd (pc := 2) dX12_nextBlock_2 (fun x1 => ?_)
  refine G_istore_n (lv' := [vR a0, vI a1, vI a2, vI x1]) (pc := 3) dX12_nextBlock_3 rfl ?_
  refine gX12_nextBlock_L4 hst fu a0 a1 a2 _ (fun s10 => ?_) fu s x1
  exact gX12_nextBlock_J42 hst fu s10
def fX12_nearest_J150 (fu : Nat) (s : z_M) (a0 : Int) (a1 : Int) (a2 : Int) (a3 : Int) (a4 : Int) (a5 : Int) (r : z_M → Int → Int → Int → z_O) (k : z_M → Int → Int → z_O) : z_O := z_let (z_w (a5 + 1)) (fun x21 => r s a2 a3 x21)
theorem gX12_nearest_J150 {l : Launch} {K : z_K} (hst : l.stackTraces = false) (fu : Nat) (s : z_M) (a0 : Int) (a1 : Int) (a2 : Int) (a3 : Int) (a4 : Int) (a5 : Int) (r : z_M → Int → Int → Int → z_O) (k : z_M → Int → Int → z_O) (hr : ∀ (s : z_M) (a2 : Int) (a3 : Int) (a5 : Int), G l K mX12_nearest 11 250 0 0 55 [vR a0, vI a1, vI a2, vI a3, vI a4, vI a5, vU, vU, vU] [] s (r s a2 a3 a5)) (hk : ∀ (s : z_M) (a2 : Int) (a3 : Int), G l K mX12_nearest 11 250 0 0 156 [vR a0, vI a1, vI a2, vI a3, vI a4, vU, vU, vU, vU] [] s (k s a2 a3)) : G l K mX12_nearest 11 250 0 0 150 [vR a0, vI a1, vI a2, vI a3, vI a4, vI a5, vU, vU, vU] [] s (fX12_nearest_J150 fu s a0 a1 a2 a3 a4 a5 r k) := by
  unfold fX12_nearest_J150
  refine G_iinc (x := a5) (g := fun x21 => [vR a0, vI a1, vI a2, vI a3, vI a4, vI x21, vU, vU, vU]) (pc := 150) dX12_nearest_150 rfl (fun _ => rfl) (fun x21 => ?_)
  refine G_goto (tgt := 55) (pc := 153) dX12_nearest_153 ?_
  exact hr s a2 a3 x21
def fX12_nearest_J140 (fu : Nat) (s : z_M) (a0 : Int) (a1 : Int) (a4 : Int) (a5 : Int) (a8 : Int) (r : z_M → Int → Int → Int → z_O) (k : z_M → Int → Int → z_O) : z_O := if z_ob a0 12 then z_bI (fX12_lineOfBlock fu s a0 a4) (fun x20 s19 => fX12_nearest_J150 fu s19 a0 a1 x20 a8 a4 a5 (fun w v2 v3 v5 => r w v2 v3 v5) k) else none
theorem gX12_nearest_J140 {l : Launch} {K : z_K} (hst : l.stackTraces = false) (fu : Nat) (s : z_M) (a0 : Int) (a1 : Int) (a4 : Int) (a5 : Int) (a8 : Int) (r : z_M → Int → Int → Int → z_O) (k : z_M → Int → Int → z_O) (hr : ∀ (s : z_M) (a2 : Int) (a3 : Int) (a5 : Int), G l K mX12_nearest 11 250 0 0 55 [vR a0, vI a1, vI a2, vI a3, vI a4, vI a5, vU, vU, vU] [] s (r s a2 a3 a5)) (hk : ∀ (s : z_M) (a2 : Int) (a3 : Int), G l K mX12_nearest 11 250 0 0 156 [vR a0, vI a1, vI a2, vI a3, vI a4, vU, vU, vU, vU] [] s (k s a2 a3)) : G l K mX12_nearest 11 250 0 0 140 [vR a0, vI a1, vU, vU, vI a4, vI a5, vU, vU, vI a8] [] s (fX12_nearest_J140 fu s a0 a1 a4 a5 a8 r k) := by
  unfold fX12_nearest_J140
  refine G_aload_n (x := a0) (pc := 140) dX12_nearest_140 rfl ?_
  refine G_iload (x := a4) (pc := 141) dX12_nearest_141 rfl ?_
  refine G_callVI (as := [vI a4]) (st := []) (c := 12) (bc2 := 0) (bs2 := 0) (pc := 143) dX12_nearest_143 z_mX12_lineOfBlock z_vX12_lineOfBlock z_wX12_442 (gX12_lineOfBlock hst fu s a0 a4) rfl rfl (by decide) rfl rfl ⟨by decide, by decide, by decide, by decide, Nat.le_of_ble_eq_true rfl⟩ rfl (fun x20 s19 => ?_)
  refine G_istore_n (lv' := [vR a0, vI a1, vI x20, vU, vI a4, vI a5, vU, vU, vI a8]) (pc := 146) dX12_nearest_146 rfl ?_
  refine G_iload (x := a8) (pc := 147) dX12_nearest_147 rfl ?_
  refine G_istore_n (lv' := [vR a0, vI a1, vI x20, vI a8, vI a4, vI a5, vU, vU, vI a8]) (pc := 149) dX12_nearest_149 rfl ?_
  refine G_fg (lv2 := [vR a0, vI a1, vI x20, vI a8, vI a4, vI a5, vU, vU, vU]) ⟨Or.inr rfl, Or.inr rfl, Or.inr rfl, Or.inr rfl, Or.inr rfl, Or.inr rfl, Or.inl rfl, Or.inl rfl, Or.inl rfl, trivial⟩ ?_
  exact gX12_nearest_J150 hst fu s19 a0 a1 x20 a8 a4 a5 _ _ (fun w v2 v3 v5 => hr w v2 v3 v5) hk
def fX12_nearest_J88 (fu : Nat) (s : z_M) (a0 : Int) (a1 : Int) (a2 : Int) (a3 : Int) (a4 : Int) (a5 : Int) (a6 : Int) (t0 : Int) (r : z_M → Int → Int → Int → z_O) (k : z_M → Int → Int → z_O) : z_O := if (t0 : Int) ≠ (-1) then (if z_ob a0 12 then z_bI (fX12_letterPlace fu s a0 t0 a5 0) (fun x13 s12 => z_let (z_w (a6 - 1)) (fun x14 => if z_ob a0 12 then z_bI (fX12_letterPlace fu s12 a0 a4 a5 x14) (fun x16 s15 => z_let (z_w (x13 - x16)) (fun x17 => z_let (z_w (x17 - 6)) (fun x18 => if (a2 : Int) = (-1) then (fX12_nearest_J140 fu s15 a0 a1 a4 a5 x18 (fun w v2 v3 v5 => r w v2 v3 v5) k) else (if (x18 : Int) < a3 then (fX12_nearest_J140 fu s15 a0 a1 a4 a5 x18 (fun w v2 v3 v5 => r w v2 v3 v5) k) else (fX12_nearest_J150 fu s15 a0 a1 a2 a3 a4 a5 (fun w v2 v3 v5 => r w v2 v3 v5) k))))) else none)) else none) else (fX12_nearest_J150 fu s a0 a1 a2 a3 a4 a5 (fun w v2 v3 v5 => r w v2 v3 v5) k)
theorem gX12_nearest_J88 {l : Launch} {K : z_K} (hst : l.stackTraces = false) (fu : Nat) (s : z_M) (a0 : Int) (a1 : Int) (a2 : Int) (a3 : Int) (a4 : Int) (a5 : Int) (a6 : Int) (t0 : Int) (r : z_M → Int → Int → Int → z_O) (k : z_M → Int → Int → z_O) (hr : ∀ (s : z_M) (a2 : Int) (a3 : Int) (a5 : Int), G l K mX12_nearest 11 250 0 0 55 [vR a0, vI a1, vI a2, vI a3, vI a4, vI a5, vU, vU, vU] [] s (r s a2 a3 a5)) (hk : ∀ (s : z_M) (a2 : Int) (a3 : Int), G l K mX12_nearest 11 250 0 0 156 [vR a0, vI a1, vI a2, vI a3, vI a4, vU, vU, vU, vU] [] s (k s a2 a3)) : G l K mX12_nearest 11 250 0 0 88 [vR a0, vI a1, vI a2, vI a3, vI a4, vI a5, vI a6, vU, vU] [vI t0] s (fX12_nearest_J88 fu s a0 a1 a2 a3 a4 a5 a6 t0 r k) := by
  unfold fX12_nearest_J88
  refine G_istore (lv' := [vR a0, vI a1, vI a2, vI a3, vI a4, vI a5, vI a6, vI t0, vU]) (pc := 88) dX12_nearest_88 rfl ?_
  refine G_iload (x := t0) (pc := 90) dX12_nearest_90 rfl ?_
  refine G_iconst (pc := 92) dX12_nearest_92 ?_
  refine G_icmp_ne (tgt := 99) (pc := 93) dX12_nearest_93 ?_ ?_
  · refine G_aload_n (x := a0) (pc := 99) dX12_nearest_99 rfl ?_
    refine G_iload (x := t0) (pc := 100) dX12_nearest_100 rfl ?_
    refine G_iload (x := a5) (pc := 102) dX12_nearest_102 rfl ?_
    refine G_iconst (pc := 104) dX12_nearest_104 ?_
    refine G_callVI (as := [vI t0, vI a5, vI 0]) (st := []) (c := 12) (bc2 := 0) (bs2 := 0) (pc := 105) dX12_nearest_105 z_mX12_letterPlace z_vX12_letterPlace z_wX12_399 (gX12_letterPlace hst fu s a0 t0 a5 0) rfl rfl (by decide) rfl rfl ⟨by decide, by decide, by decide, by decide, Nat.le_of_ble_eq_true rfl⟩ rfl (fun x13 s12 => ?_)
    refine G_aload_n (x := a0) (pc := 108) dX12_nearest_108 rfl ?_
    refine G_iload (x := a4) (pc := 109) dX12_nearest_109 rfl ?_
    refine G_iload (x := a5) (pc := 111) dX12_nearest_111 rfl ?_
    refine G_iload (x := a6) (pc := 113) dX12_nearest_113 rfl ?_
    refine G_iconst (pc := 115) dX12_nearest_115 ?_
    refine G_isub (pc := 116) dX12_nearest_116 (fun x14 => ?_)
    refine G_callVI (as := [vI a4, vI a5, vI x14]) (st := [vI x13]) (c := 12) (bc2 := 0) (bs2 := 0) (pc := 117) dX12_nearest_117 z_mX12_letterPlace z_vX12_letterPlace z_wX12_399 (gX12_letterPlace hst fu s12 a0 a4 a5 x14) rfl rfl (by decide) rfl rfl ⟨by decide, by decide, by decide, by decide, Nat.le_of_ble_eq_true rfl⟩ rfl (fun x16 s15 => ?_)
    refine G_isub (pc := 120) dX12_nearest_120 (fun x17 => ?_)
    refine G_bipush (pc := 121) dX12_nearest_121 ?_
    refine G_isub (pc := 123) dX12_nearest_123 (fun x18 => ?_)
    refine G_istore (lv' := [vR a0, vI a1, vI a2, vI a3, vI a4, vI a5, vI a6, vI t0, vI x18]) (pc := 124) dX12_nearest_124 rfl ?_
    refine G_iload_n (x := a2) (pc := 126) dX12_nearest_126 rfl ?_
    refine G_iconst (pc := 127) dX12_nearest_127 ?_
    refine G_icmp_eq (tgt := 140) (pc := 128) dX12_nearest_128 ?_ ?_
    · refine G_fg (lv2 := [vR a0, vI a1, vU, vU, vI a4, vI a5, vU, vU, vI x18]) ⟨Or.inr rfl, Or.inr rfl, Or.inl rfl, Or.inl rfl, Or.inr rfl, Or.inr rfl, Or.inl rfl, Or.inl rfl, Or.inr rfl, trivial⟩ ?_
      exact gX12_nearest_J140 hst fu s15 a0 a1 a4 a5 x18 _ _ (fun w v2 v3 v5 => hr w v2 v3 v5) hk
    · refine G_iload (x := x18) (pc := 131) dX12_nearest_131 rfl ?_
      refine G_iload_n (x := a3) (pc := 133) dX12_nearest_133 rfl ?_
      refine G_icmp_lt (tgt := 140) (pc := 134) dX12_nearest_134 ?_ ?_
      · refine G_fg (lv2 := [vR a0, vI a1, vU, vU, vI a4, vI a5, vU, vU, vI x18]) ⟨Or.inr rfl, Or.inr rfl, Or.inl rfl, Or.inl rfl, Or.inr rfl, Or.inr rfl, Or.inl rfl, Or.inl rfl, Or.inr rfl, trivial⟩ ?_
        exact gX12_nearest_J140 hst fu s15 a0 a1 a4 a5 x18 _ _ (fun w v2 v3 v5 => hr w v2 v3 v5) hk
      · refine G_goto (tgt := 150) (pc := 137) dX12_nearest_137 ?_
        refine G_fg (lv2 := [vR a0, vI a1, vI a2, vI a3, vI a4, vI a5, vU, vU, vU]) ⟨Or.inr rfl, Or.inr rfl, Or.inr rfl, Or.inr rfl, Or.inr rfl, Or.inr rfl, Or.inl rfl, Or.inl rfl, Or.inl rfl, trivial⟩ ?_
        exact gX12_nearest_J150 hst fu s15 a0 a1 a2 a3 a4 a5 _ _ (fun w v2 v3 v5 => hr w v2 v3 v5) hk
  · refine G_goto (tgt := 150) (pc := 96) dX12_nearest_96 ?_
    refine G_fg (lv2 := [vR a0, vI a1, vI a2, vI a3, vI a4, vI a5, vU, vU, vU]) ⟨Or.inr rfl, Or.inr rfl, Or.inr rfl, Or.inr rfl, Or.inr rfl, Or.inr rfl, Or.inl rfl, Or.inl rfl, Or.inl rfl, trivial⟩ ?_
    exact gX12_nearest_J150 hst fu s a0 a1 a2 a3 a4 a5 _ _ (fun w v2 v3 v5 => hr w v2 v3 v5) hk
def fX12_nearest_L55 (fu : Nat) (a0 : Int) (a1 : Int) (a4 : Int) : Nat → z_M → Int → Int → Int → (z_M → Int → Int → z_O) → z_O
  | 0, _, _, _, _, _ => none
  | F + 1, s, a2, a3, a5, k => if (2 : Int) ≤ a5 then (k s a2 a3) else (if z_ob a0 12 then z_bI (fX12_lettersIn fu s a0 a4 a5) (fun x9 s8 => if (x9 : Int) ≠ 0 then (if z_ob a0 12 then z_bI (fX12_nextBlock fu s8 a0 a4 a5) (fun x11 s10 => fX12_nearest_J88 fu s10 a0 a1 a2 a3 a4 a5 x9 x11 (fun w v2 v3 v5 => fX12_nearest_L55 fu a0 a1 a4 F w v2 v3 v5 k) k) else none) else (fX12_nearest_J88 fu s8 a0 a1 a2 a3 a4 a5 x9 (-1) (fun w v2 v3 v5 => fX12_nearest_L55 fu a0 a1 a4 F w v2 v3 v5 k) k)) else none)
theorem gX12_nearest_L55 {l : Launch} {K : z_K} (hst : l.stackTraces = false) (fu : Nat) (a0 : Int) (a1 : Int) (a4 : Int) (k : z_M → Int → Int → z_O) (hk : ∀ (s : z_M) (a2 : Int) (a3 : Int), G l K mX12_nearest 11 250 0 0 156 [vR a0, vI a1, vI a2, vI a3, vI a4, vU, vU, vU, vU] [] s (k s a2 a3)) : ∀ (F : Nat) (s : z_M) (a2 : Int) (a3 : Int) (a5 : Int), G l K mX12_nearest 11 250 0 0 55 [vR a0, vI a1, vI a2, vI a3, vI a4, vI a5, vU, vU, vU] [] s (fX12_nearest_L55 fu a0 a1 a4 F s a2 a3 a5 k) := by
  intro F
  induction F with
  | zero => exact fun s a2 a3 a5 h => absurd rfl h
  | succ F ih =>
    intro s a2 a3 a5
    rw [fX12_nearest_L55]
    refine G_iload (x := a5) (pc := 55) dX12_nearest_55 rfl ?_
    refine G_iconst (pc := 57) dX12_nearest_57 ?_
    refine G_icmp_ge (tgt := 156) (pc := 58) dX12_nearest_58 ?_ ?_
    · refine G_fg (lv2 := [vR a0, vI a1, vI a2, vI a3, vI a4, vU, vU, vU, vU]) ⟨Or.inr rfl, Or.inr rfl, Or.inr rfl, Or.inr rfl, Or.inr rfl, Or.inl rfl, Or.inl rfl, Or.inl rfl, Or.inl rfl, trivial⟩ ?_
      exact hk s a2 a3
    · refine G_aload_n (x := a0) (pc := 61) dX12_nearest_61 rfl ?_
      refine G_iload (x := a4) (pc := 62) dX12_nearest_62 rfl ?_
      refine G_iload (x := a5) (pc := 64) dX12_nearest_64 rfl ?_
      refine G_callVI (as := [vI a4, vI a5]) (st := []) (c := 12) (bc2 := 0) (bs2 := 0) (pc := 66) dX12_nearest_66 z_mX12_lettersIn z_vX12_lettersIn z_wX12_393 (gX12_lettersIn hst fu s a0 a4 a5) rfl rfl (by decide) rfl rfl ⟨by decide, by decide, by decide, by decide, Nat.le_of_ble_eq_true rfl⟩ rfl (fun x9 s8 => ?_)
      refine G_istore (lv' := [vR a0, vI a1, vI a2, vI a3, vI a4, vI a5, vI x9, vU, vU]) (pc := 69) dX12_nearest_69 rfl ?_
      refine G_iload (x := x9) (pc := 71) dX12_nearest_71 rfl ?_
      refine G_if_ne (tgt := 80) (pc := 73) dX12_nearest_73 ?_ ?_
      · refine G_aload_n (x := a0) (pc := 80) dX12_nearest_80 rfl ?_
        refine G_iload (x := a4) (pc := 81) dX12_nearest_81 rfl ?_
        refine G_iload (x := a5) (pc := 83) dX12_nearest_83 rfl ?_
        refine G_callVI (as := [vI a4, vI a5]) (st := []) (c := 12) (bc2 := 0) (bs2 := 0) (pc := 85) dX12_nearest_85 z_mX12_nextBlock z_vX12_nextBlock z_wX12_445 (gX12_nextBlock hst fu s8 a0 a4 a5) rfl rfl (by decide) rfl rfl ⟨by decide, by decide, by decide, by decide, Nat.le_of_ble_eq_true rfl⟩ rfl (fun x11 s10 => ?_)
        exact gX12_nearest_J88 hst fu s10 a0 a1 a2 a3 a4 a5 x9 x11 _ _ (fun w v2 v3 v5 => ih w v2 v3 v5) hk
      · refine G_iconst (pc := 76) dX12_nearest_76 ?_
        refine G_goto (tgt := 88) (pc := 77) dX12_nearest_77 ?_
        exact gX12_nearest_J88 hst fu s8 a0 a1 a2 a3 a4 a5 x9 (-1) _ _ (fun w v2 v3 v5 => ih w v2 v3 v5) hk
def fX12_nearest_L43 (fu : Nat) (a0 : Int) (a1 : Int) : Nat → z_M → Int → Int → Int → (z_M → Int → Int → z_O) → z_O
  | 0, _, _, _, _, _ => none
  | F + 1, s, a2, a3, a4, k => if z_ob a0 12 then z_let (s a0 58) (fun x7 => if (x7 : Int) ≤ a4 then (k s a2 a3) else (fX12_nearest_L55 fu a0 a1 a4 fu s a2 a3 0 (fun s22 x23 x24 => z_let (z_w (a4 + 1)) (fun x25 => fX12_nearest_L43 fu a0 a1 F s22 x23 x24 x25 k)))) else none
theorem gX12_nearest_L43 {l : Launch} {K : z_K} (hst : l.stackTraces = false) (fu : Nat) (a0 : Int) (a1 : Int) (k : z_M → Int → Int → z_O) (hk : ∀ (s : z_M) (a2 : Int) (a3 : Int), G l K mX12_nearest 11 250 0 0 162 [vU, vI a1, vI a2, vI a3, vU, vU, vU, vU, vU] [] s (k s a2 a3)) : ∀ (F : Nat) (s : z_M) (a2 : Int) (a3 : Int) (a4 : Int), G l K mX12_nearest 11 250 0 0 43 [vR a0, vI a1, vI a2, vI a3, vI a4, vU, vU, vU, vU] [] s (fX12_nearest_L43 fu a0 a1 F s a2 a3 a4 k) := by
  intro F
  induction F with
  | zero => exact fun s a2 a3 a4 h => absurd rfl h
  | succ F ih =>
    intro s a2 a3 a4
    rw [fX12_nearest_L43]
    refine G_iload (x := a4) (pc := 43) dX12_nearest_43 rfl ?_
    refine G_aload_n (x := a0) (pc := 45) dX12_nearest_45 rfl ?_
    refine G_getI (j := 58) (pc := 46) dX12_nearest_46 rfl z_CLX12 (by decide) z_wX12_359 (by decide) (fun x7 => ?_)
    refine G_icmp_ge (tgt := 162) (pc := 49) dX12_nearest_49 ?_ ?_
    · refine G_fg (lv2 := [vU, vI a1, vI a2, vI a3, vU, vU, vU, vU, vU]) ⟨Or.inl rfl, Or.inr rfl, Or.inr rfl, Or.inr rfl, Or.inl rfl, Or.inl rfl, Or.inl rfl, Or.inl rfl, Or.inl rfl, trivial⟩ ?_
      exact hk s a2 a3
    · refine G_iconst (pc := 52) dX12_nearest_52 ?_
      refine G_istore (lv' := [vR a0, vI a1, vI a2, vI a3, vI a4, vI 0, vU, vU, vU]) (pc := 53) dX12_nearest_53 rfl ?_
      refine gX12_nearest_L55 hst fu a0 a1 a4 _ (fun s22 x23 x24 => ?_) fu s a2 a3 0
      refine G_iinc (x := a4) (g := fun x25 => [vR a0, vI a1, vI x23, vI x24, vI x25, vU, vU, vU, vU]) (pc := 156) dX12_nearest_156 rfl (fun _ => rfl) (fun x25 => ?_)
      refine G_goto (tgt := 43) (pc := 159) dX12_nearest_159 ?_
      exact ih s22 x23 x24 x25
def fX12_nearest_J171 (fu : Nat) (s : z_M) (t0 : Int) : z_O := some (vI t0, s)
theorem gX12_nearest_J171 {l : Launch} {K : z_K} (hst : l.stackTraces = false) (fu : Nat) (s : z_M) (t0 : Int) : G l K mX12_nearest 11 250 0 0 171 [vU, vU, vU, vU, vU, vU, vU, vU, vU] [vI t0] s (fX12_nearest_J171 fu s t0) := by
  unfold fX12_nearest_J171
  exact G_iret (pc := 171) dX12_nearest_171
def fX12_nearest_J20 (fu : Nat) (s : z_M) (a0 : Int) (a1 : Int) (t0 : Int) (t1 : Int) : z_O := if z_ob t0 12 then z_bI (fX12_bad fu s t0 t1 1 1) (fun x5 s4 => if (x5 : Int) = 0 then (if z_ob a0 12 then z_bN (fX12_laysAll fu s4 a0) (fun s6 => fX12_nearest_L43 fu a0 a1 fu s6 (-1) 999 0 (fun s26 x27 x28 => if (a1 : Int) ≠ 0 then (fX12_nearest_J171 fu s26 x27) else (fX12_nearest_J171 fu s26 x28))) else none) else (some (vI 0, s4))) else none
theorem gX12_nearest_J20 {l : Launch} {K : z_K} (hst : l.stackTraces = false) (fu : Nat) (s : z_M) (a0 : Int) (a1 : Int) (t0 : Int) (t1 : Int) : G l K mX12_nearest 11 250 0 0 20 [vR a0, vI a1, vU, vU, vU, vU, vU, vU, vU] [vI t1, vR t0] s (fX12_nearest_J20 fu s a0 a1 t0 t1) := by
  unfold fX12_nearest_J20
  refine G_iconst (pc := 20) dX12_nearest_20 ?_
  refine G_iconst (pc := 21) dX12_nearest_21 ?_
  refine G_callVI (as := [vI t1, vI 1, vI 1]) (st := []) (c := 12) (bc2 := 0) (bs2 := 0) (pc := 22) dX12_nearest_22 z_mX12_bad z_vX12_bad z_wX12_249 (gX12_bad hst fu s t0 t1 1 1) rfl rfl (by decide) rfl rfl ⟨by decide, by decide, by decide, by decide, Nat.le_of_ble_eq_true rfl⟩ rfl (fun x5 s4 => ?_)
  refine G_if_eq (tgt := 30) (pc := 25) dX12_nearest_25 ?_ ?_
  · refine G_aload_n (x := a0) (pc := 30) dX12_nearest_30 rfl ?_
    refine G_callVN (as := []) (st := []) (c := 12) (bc2 := 0) (bs2 := 0) (pc := 31) dX12_nearest_31 z_mX12_laysAll z_vX12_laysAll z_wX12_371 (gX12_laysAll hst fu s4 a0) rfl rfl (by decide) rfl rfl ⟨by decide, by decide, by decide, by decide, Nat.le_of_ble_eq_true rfl⟩ rfl (fun s6 => ?_)
    refine G_iconst (pc := 34) dX12_nearest_34 ?_
    refine G_istore_n (lv' := [vR a0, vI a1, vI (-1), vU, vU, vU, vU, vU, vU]) (pc := 35) dX12_nearest_35 rfl ?_
    refine G_sipush (pc := 36) dX12_nearest_36 ?_
    refine G_istore_n (lv' := [vR a0, vI a1, vI (-1), vI 999, vU, vU, vU, vU, vU]) (pc := 39) dX12_nearest_39 rfl ?_
    refine G_iconst (pc := 40) dX12_nearest_40 ?_
    refine G_istore (lv' := [vR a0, vI a1, vI (-1), vI 999, vI 0, vU, vU, vU, vU]) (pc := 41) dX12_nearest_41 rfl ?_
    refine gX12_nearest_L43 hst fu a0 a1 _ (fun s26 x27 x28 => ?_) fu s6 (-1) 999 0
    refine G_iload_n (x := a1) (pc := 162) dX12_nearest_162 rfl ?_
    refine G_if_ne (tgt := 170) (pc := 163) dX12_nearest_163 ?_ ?_
    · refine G_iload_n (x := x27) (pc := 170) dX12_nearest_170 rfl ?_
      refine G_fg (lv2 := [vU, vU, vU, vU, vU, vU, vU, vU, vU]) ⟨Or.inl rfl, Or.inl rfl, Or.inl rfl, Or.inl rfl, Or.inl rfl, Or.inl rfl, Or.inl rfl, Or.inl rfl, Or.inl rfl, trivial⟩ ?_
      exact gX12_nearest_J171 hst fu s26 x27
    · refine G_iload_n (x := x28) (pc := 166) dX12_nearest_166 rfl ?_
      refine G_goto (tgt := 171) (pc := 167) dX12_nearest_167 ?_
      refine G_fg (lv2 := [vU, vU, vU, vU, vU, vU, vU, vU, vU]) ⟨Or.inl rfl, Or.inl rfl, Or.inl rfl, Or.inl rfl, Or.inl rfl, Or.inl rfl, Or.inl rfl, Or.inl rfl, Or.inl rfl, trivial⟩ ?_
      exact gX12_nearest_J171 hst fu s26 x28
  · refine G_iconst (pc := 28) dX12_nearest_28 ?_
    exact G_iret (pc := 29) dX12_nearest_29
def fX12_nearest (fu : Nat) (s : z_M) (a0 : Int) (a1 : Int) : z_O := if z_ob a0 12 then z_let (z_up s a0 0 0) (fun s1 => z_bI (fX12_in fu s1 a1 0 1) (fun x3 s2 => if (x3 : Int) ≠ 0 then (fX12_nearest_J20 fu s2 a0 a1 a0 0) else (fX12_nearest_J20 fu s2 a0 a1 a0 1))) else none
theorem gX12_nearest {l : Launch} {K : z_K} (hst : l.stackTraces = false) (fu : Nat) (s : z_M) (a0 : Int) (a1 : Int) : z_D l K mX12_nearest 11 250 0 0 [vR a0, vI a1] s (fX12_nearest fu s a0 a1) := by
  refine z_D_of (lv := [vR a0, vI a1, vU, vU, vU, vU, vU, vU, vU]) hst z_mX12_nearest rfl ?_ (Nat.le_of_ble_eq_true rfl) rfl
  unfold fX12_nearest
  refine G_aload_n (x := a0) (pc := 0) dX12_nearest_0 rfl ?_
  refine G_iconst (pc := 1) dX12_nearest_1 ?_
  refine G_putI (j := 0) (pc := 2) dX12_nearest_2 rfl z_CLX12 (by decide) z_wX12_170 rfl (by decide) (by decide) (fun s1 => ?_)
  refine G_aload_n (x := a0) (pc := 5) dX12_nearest_5 rfl ?_
  refine G_iload_n (x := a1) (pc := 6) dX12_nearest_6 rfl ?_
  refine G_iconst (pc := 7) dX12_nearest_7 ?_
  refine G_iconst (pc := 8) dX12_nearest_8 ?_
  refine G_callSI (as := [vI a1, vI 0, vI 1]) (st := [vR a0]) (bc2 := 0) (bs2 := 0) (pc := 9) dX12_nearest_9 z_mX12_in z_sX12_in z_wX12_245 (gX12_in hst fu s1 a1 0 1) rfl rfl ⟨by decide, by decide, by decide, by decide, Nat.le_of_ble_eq_true rfl⟩ rfl (fun x3 s2 => ?_)
  refine G_if_ne (tgt := 19) (pc := 12) dX12_nearest_12 ?_ ?_
  · refine G_iconst (pc := 19) dX12_nearest_19 ?_
    exact gX12_nearest_J20 hst fu s2 a0 a1 a0 0
  · refine G_iconst (pc := 15) dX12_nearest_15 ?_
    refine G_goto (tgt := 20) (pc := 16) dX12_nearest_16 ?_
    exact gX12_nearest_J20 hst fu s2 a0 a1 a0 1
