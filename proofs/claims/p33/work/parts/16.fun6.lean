/-! FUNCTIONS, further (by program) -/
def fX12_laysBest_J122 (fu : Nat) (s : z_M) (a0 : Int) (a1 : Int) (a2 : Int) (a3 : Int) (r : z_M → Int → z_O) (k : z_M → z_O) : z_O := z_let (z_w (a3 + 1)) (fun x24 => r s x24)
theorem gX12_laysBest_J122 {l : Launch} {K : z_K} (hst : l.stackTraces = false) (fu : Nat) (s : z_M) (a0 : Int) (a1 : Int) (a2 : Int) (a3 : Int) (r : z_M → Int → z_O) (k : z_M → z_O) (hr : ∀ (s : z_M) (a3 : Int), G l K mX12_laysBest 8 180 0 0 32 [vR a0, vI a1, vI a2, vI a3, vU, vU] [] s (r s a3)) (hk : ∀ (s : z_M), G l K mX12_laysBest 8 180 0 0 128 [vR a0, vI a1, vI a2, vU, vU, vU] [] s (k s)) : G l K mX12_laysBest 8 180 0 0 122 [vR a0, vI a1, vI a2, vI a3, vU, vU] [] s (fX12_laysBest_J122 fu s a0 a1 a2 a3 r k) := by
  unfold fX12_laysBest_J122
  refine G_iinc (x := a3) (g := fun x24 => [vR a0, vI a1, vI a2, vI x24, vU, vU]) (pc := 122) dX12_laysBest_122 rfl (fun _ => rfl) (fun x24 => ?_)
  refine G_goto (tgt := 32) (pc := 125) dX12_laysBest_125 ?_
  exact hr s x24
def fX12_laysBest_J107 (fu : Nat) (s : z_M) (a0 : Int) (a1 : Int) (a2 : Int) (a3 : Int) (a4 : Int) (r : z_M → Int → z_O) (k : z_M → z_O) : z_O := if z_ob a0 12 then z_let (z_gr a0 46) (fun x20 => if z_ix x20 101 a2 then z_let (z_up s x20 a2 a4) (fun s21 => if z_ob a0 12 then z_let (z_gr a0 47) (fun x22 => if z_ix x22 100 a2 then z_let (z_up s21 x22 a2 a3) (fun s23 => fX12_laysBest_J122 fu s23 a0 a1 a2 a3 (fun w v3 => r w v3) k) else none) else none) else none) else none
theorem gX12_laysBest_J107 {l : Launch} {K : z_K} (hst : l.stackTraces = false) (fu : Nat) (s : z_M) (a0 : Int) (a1 : Int) (a2 : Int) (a3 : Int) (a4 : Int) (r : z_M → Int → z_O) (k : z_M → z_O) (hr : ∀ (s : z_M) (a3 : Int), G l K mX12_laysBest 8 180 0 0 32 [vR a0, vI a1, vI a2, vI a3, vU, vU] [] s (r s a3)) (hk : ∀ (s : z_M), G l K mX12_laysBest 8 180 0 0 128 [vR a0, vI a1, vI a2, vU, vU, vU] [] s (k s)) : G l K mX12_laysBest 8 180 0 0 107 [vR a0, vI a1, vI a2, vI a3, vL a4, vU] [] s (fX12_laysBest_J107 fu s a0 a1 a2 a3 a4 r k) := by
  unfold fX12_laysBest_J107
  refine G_aload_n (x := a0) (pc := 107) dX12_laysBest_107 rfl ?_
  refine G_getR (j := 46) (pc := 108) dX12_laysBest_108 rfl z_CLX12 (by decide) z_wX12_112 (by decide) (fun x20 => ?_)
  refine G_iload_n (x := a2) (pc := 111) dX12_laysBest_111 rfl ?_
  refine G_lload (x := a4) (pc := 112) dX12_laysBest_112 rfl ?_
  refine G_last (pc := 114) dX12_laysBest_114 (fun s21 => ?_)
  refine G_aload_n (x := a0) (pc := 115) dX12_laysBest_115 rfl ?_
  refine G_getR (j := 47) (pc := 116) dX12_laysBest_116 rfl z_CLX12 (by decide) z_wX12_116 (by decide) (fun x22 => ?_)
  refine G_iload_n (x := a2) (pc := 119) dX12_laysBest_119 rfl ?_
  refine G_iload_n (x := a3) (pc := 120) dX12_laysBest_120 rfl ?_
  refine G_iast (pc := 121) dX12_laysBest_121 (fun s23 => ?_)
  refine G_fg (lv2 := [vR a0, vI a1, vI a2, vI a3, vU, vU]) ⟨Or.inr rfl, Or.inr rfl, Or.inr rfl, Or.inr rfl, Or.inl rfl, Or.inl rfl, trivial⟩ ?_
  exact gX12_laysBest_J122 hst fu s23 a0 a1 a2 a3 _ _ (fun w v3 => hr w v3) hk
def fX12_laysBest_J61 (fu : Nat) (s : z_M) (a0 : Int) (a1 : Int) (a2 : Int) (a3 : Int) (r : z_M → Int → z_O) (k : z_M → z_O) : z_O := if z_ob a0 12 then z_bL (fX12_cost fu s a0 a2 a3 a1) (fun x12 s11 => if z_ob a0 12 then z_let (z_gr a0 46) (fun x13 => z_let (z_w (a3 + 1)) (fun x14 => if z_ix x13 101 x14 then z_let (s11 x13 x14) (fun x15 => z_let (z_wl (x12 + x15)) (fun x16 => if z_ob a0 12 then z_let (z_gr a0 46) (fun x17 => if z_ix x17 101 a2 then z_let (s11 x17 a2) (fun x18 => z_let (z_cmp x18 (-1)) (fun x19 => if (x19 : Int) = 0 then (fX12_laysBest_J107 fu s11 a0 a1 a2 a3 x16 (fun w v3 => r w v3) k) else (if z_ob a0 12 then z_let (z_gr a0 46) (fun x25 => if z_ix x25 101 a2 then z_let (s11 x25 a2) (fun x26 => z_let (z_cmp x16 x26) (fun x27 => if (x27 : Int) < 0 then (fX12_laysBest_J107 fu s11 a0 a1 a2 a3 x16 (fun w v3 => r w v3) k) else (fX12_laysBest_J122 fu s11 a0 a1 a2 a3 (fun w v3 => r w v3) k))) else none) else none))) else none) else none)) else none)) else none) else none
theorem gX12_laysBest_J61 {l : Launch} {K : z_K} (hst : l.stackTraces = false) (fu : Nat) (s : z_M) (a0 : Int) (a1 : Int) (a2 : Int) (a3 : Int) (r : z_M → Int → z_O) (k : z_M → z_O) (hr : ∀ (s : z_M) (a3 : Int), G l K mX12_laysBest 8 180 0 0 32 [vR a0, vI a1, vI a2, vI a3, vU, vU] [] s (r s a3)) (hk : ∀ (s : z_M), G l K mX12_laysBest 8 180 0 0 128 [vR a0, vI a1, vI a2, vU, vU, vU] [] s (k s)) : G l K mX12_laysBest 8 180 0 0 61 [vR a0, vI a1, vI a2, vI a3, vU, vU] [] s (fX12_laysBest_J61 fu s a0 a1 a2 a3 r k) := by
  unfold fX12_laysBest_J61
  refine G_aload_n (x := a0) (pc := 61) dX12_laysBest_61 rfl ?_
  refine G_iload_n (x := a2) (pc := 62) dX12_laysBest_62 rfl ?_
  refine G_iload_n (x := a3) (pc := 63) dX12_laysBest_63 rfl ?_
  refine G_iload_n (x := a1) (pc := 64) dX12_laysBest_64 rfl ?_
  refine G_callVL (as := [vI a2, vI a3, vI a1]) (st := []) (c := 12) (bc2 := 0) (bs2 := 0) (pc := 65) dX12_laysBest_65 z_mX12_cost z_vX12_cost z_wX12_342 (gX12_cost hst fu s a0 a2 a3 a1) rfl rfl (by decide) rfl rfl ⟨by decide, by decide, by decide, by decide, Nat.le_of_ble_eq_true rfl⟩ rfl (fun x12 s11 => ?_)
  refine G_aload_n (x := a0) (pc := 68) dX12_laysBest_68 rfl ?_
  refine G_getR (j := 46) (pc := 69) dX12_laysBest_69 rfl z_CLX12 (by decide) z_wX12_112 (by decide) (fun x13 => ?_)
  refine G_iload_n (x := a3) (pc := 72) dX12_laysBest_72 rfl ?_
  refine G_iconst (pc := 73) dX12_laysBest_73 ?_
  refine G_iadd (pc := 74) dX12_laysBest_74 (fun x14 => ?_)
  refine G_lald (pc := 75) dX12_laysBest_75 (fun x15 => ?_)
  refine G_ladd (pc := 76) dX12_laysBest_76 (fun x16 => ?_)
  refine G_lstore (lv' := [vR a0, vI a1, vI a2, vI a3, vL x16, vU]) (pc := 77) dX12_laysBest_77 rfl ?_
  refine G_aload_n (x := a0) (pc := 79) dX12_laysBest_79 rfl ?_
  refine G_getR (j := 46) (pc := 80) dX12_laysBest_80 rfl z_CLX12 (by decide) z_wX12_112 (by decide) (fun x17 => ?_)
  refine G_iload_n (x := a2) (pc := 83) dX12_laysBest_83 rfl ?_
  refine G_lald (pc := 84) dX12_laysBest_84 (fun x18 => ?_)
  refine G_ldc2 (pc := 85) dX12_laysBest_85 z_wX12_340 ?_
  refine G_lcmp (pc := 88) dX12_laysBest_88 (fun x19 => ?_)
  refine G_if_eq (tgt := 107) (pc := 89) dX12_laysBest_89 ?_ ?_
  · exact gX12_laysBest_J107 hst fu s11 a0 a1 a2 a3 x16 _ _ (fun w v3 => hr w v3) hk
  · refine G_lload (x := x16) (pc := 92) dX12_laysBest_92 rfl ?_
    refine G_aload_n (x := a0) (pc := 94) dX12_laysBest_94 rfl ?_
    refine G_getR (j := 46) (pc := 95) dX12_laysBest_95 rfl z_CLX12 (by decide) z_wX12_112 (by decide) (fun x25 => ?_)
    refine G_iload_n (x := a2) (pc := 98) dX12_laysBest_98 rfl ?_
    refine G_lald (pc := 99) dX12_laysBest_99 (fun x26 => ?_)
    refine G_lcmp (pc := 100) dX12_laysBest_100 (fun x27 => ?_)
    refine G_if_lt (tgt := 107) (pc := 101) dX12_laysBest_101 ?_ ?_
    · exact gX12_laysBest_J107 hst fu s11 a0 a1 a2 a3 x16 _ _ (fun w v3 => hr w v3) hk
    · refine G_goto (tgt := 122) (pc := 104) dX12_laysBest_104 ?_
      refine G_fg (lv2 := [vR a0, vI a1, vI a2, vI a3, vU, vU]) ⟨Or.inr rfl, Or.inr rfl, Or.inr rfl, Or.inr rfl, Or.inl rfl, Or.inl rfl, trivial⟩ ?_
      exact gX12_laysBest_J122 hst fu s11 a0 a1 a2 a3 _ _ (fun w v3 => hr w v3) hk
def fX12_laysBest_L32 (fu : Nat) (a0 : Int) (a1 : Int) (a2 : Int) : Nat → z_M → Int → (z_M → z_O) → z_O
  | 0, _, _, _ => none
  | F + 1, s, a3, k => if z_ob a0 12 then z_let (s a0 20) (fun x8 => if (x8 : Int) ≤ a3 then (k s) else (if z_ob a0 12 then z_let (s a0 20) (fun x9 => z_let (z_w (x9 - 1)) (fun x10 => if (x10 : Int) ≤ a3 then (fX12_laysBest_J61 fu s a0 a1 a2 a3 (fun w v3 => fX12_laysBest_L32 fu a0 a1 a2 F w v3 k) k) else (if z_ob a0 12 then z_bI (fX12_mayEnd fu s a0 a3) (fun x29 s28 => if (x29 : Int) ≠ 0 then (fX12_laysBest_J61 fu s28 a0 a1 a2 a3 (fun w v3 => fX12_laysBest_L32 fu a0 a1 a2 F w v3 k) k) else (fX12_laysBest_J122 fu s28 a0 a1 a2 a3 (fun w v3 => fX12_laysBest_L32 fu a0 a1 a2 F w v3 k) k)) else none))) else none)) else none
theorem gX12_laysBest_L32 {l : Launch} {K : z_K} (hst : l.stackTraces = false) (fu : Nat) (a0 : Int) (a1 : Int) (a2 : Int) (k : z_M → z_O) (hk : ∀ (s : z_M), G l K mX12_laysBest 8 180 0 0 128 [vR a0, vI a1, vI a2, vU, vU, vU] [] s (k s)) : ∀ (F : Nat) (s : z_M) (a3 : Int), G l K mX12_laysBest 8 180 0 0 32 [vR a0, vI a1, vI a2, vI a3, vU, vU] [] s (fX12_laysBest_L32 fu a0 a1 a2 F s a3 k) := by
  intro F
  induction F with
  | zero => exact fun s a3 h => absurd rfl h
  | succ F ih =>
    intro s a3
    rw [fX12_laysBest_L32]
    refine G_iload_n (x := a3) (pc := 32) dX12_laysBest_32 rfl ?_
    refine G_aload_n (x := a0) (pc := 33) dX12_laysBest_33 rfl ?_
    refine G_getI (j := 20) (pc := 34) dX12_laysBest_34 rfl z_CLX12 (by decide) z_wX12_242 (by decide) (fun x8 => ?_)
    refine G_icmp_ge (tgt := 128) (pc := 37) dX12_laysBest_37 ?_ ?_
    · refine G_fg (lv2 := [vR a0, vI a1, vI a2, vU, vU, vU]) ⟨Or.inr rfl, Or.inr rfl, Or.inr rfl, Or.inl rfl, Or.inl rfl, Or.inl rfl, trivial⟩ ?_
      exact hk s
    · refine G_iload_n (x := a3) (pc := 40) dX12_laysBest_40 rfl ?_
      refine G_aload_n (x := a0) (pc := 41) dX12_laysBest_41 rfl ?_
      refine G_getI (j := 20) (pc := 42) dX12_laysBest_42 rfl z_CLX12 (by decide) z_wX12_242 (by decide) (fun x9 => ?_)
      refine G_iconst (pc := 45) dX12_laysBest_45 ?_
      refine G_isub (pc := 46) dX12_laysBest_46 (fun x10 => ?_)
      refine G_icmp_ge (tgt := 61) (pc := 47) dX12_laysBest_47 ?_ ?_
      · exact gX12_laysBest_J61 hst fu s a0 a1 a2 a3 _ _ (fun w v3 => ih w v3) hk
      · refine G_aload_n (x := a0) (pc := 50) dX12_laysBest_50 rfl ?_
        refine G_iload_n (x := a3) (pc := 51) dX12_laysBest_51 rfl ?_
        refine G_callVI (as := [vI a3]) (st := []) (c := 12) (bc2 := 0) (bs2 := 0) (pc := 52) dX12_laysBest_52 z_mX12_mayEnd z_vX12_mayEnd z_wX12_335 (gX12_mayEnd hst fu s a0 a3) rfl rfl (by decide) rfl rfl ⟨by decide, by decide, by decide, by decide, Nat.le_of_ble_eq_true rfl⟩ rfl (fun x29 s28 => ?_)
        refine G_if_ne (tgt := 61) (pc := 55) dX12_laysBest_55 ?_ ?_
        · exact gX12_laysBest_J61 hst fu s28 a0 a1 a2 a3 _ _ (fun w v3 => ih w v3) hk
        · refine G_goto (tgt := 122) (pc := 58) dX12_laysBest_58 ?_
          exact gX12_laysBest_J122 hst fu s28 a0 a1 a2 a3 _ _ (fun w v3 => ih w v3) hk
def fX12_laysBest_L17 (fu : Nat) (a0 : Int) (a1 : Int) : Nat → z_M → Int → (z_M → z_O) → z_O
  | 0, _, _, _ => none
  | F + 1, s, a2, k => if (a2 : Int) < 0 then (k s) else (if z_ob a0 12 then z_let (z_gr a0 46) (fun x6 => if z_ix x6 101 a2 then z_let (z_up s x6 a2 (-1)) (fun s7 => fX12_laysBest_L32 fu a0 a1 a2 fu s7 a2 (fun s30 => z_let (z_w (a2 + (-1))) (fun x31 => fX12_laysBest_L17 fu a0 a1 F s30 x31 k))) else none) else none)
theorem gX12_laysBest_L17 {l : Launch} {K : z_K} (hst : l.stackTraces = false) (fu : Nat) (a0 : Int) (a1 : Int) (k : z_M → z_O) (hk : ∀ (s : z_M), G l K mX12_laysBest 8 180 0 0 134 [vU, vU, vU, vU, vU, vU] [] s (k s)) : ∀ (F : Nat) (s : z_M) (a2 : Int), G l K mX12_laysBest 8 180 0 0 17 [vR a0, vI a1, vI a2, vU, vU, vU] [] s (fX12_laysBest_L17 fu a0 a1 F s a2 k) := by
  intro F
  induction F with
  | zero => exact fun s a2 h => absurd rfl h
  | succ F ih =>
    intro s a2
    rw [fX12_laysBest_L17]
    refine G_iload_n (x := a2) (pc := 17) dX12_laysBest_17 rfl ?_
    refine G_if_lt (tgt := 134) (pc := 18) dX12_laysBest_18 ?_ ?_
    · refine G_fg (lv2 := [vU, vU, vU, vU, vU, vU]) ⟨Or.inl rfl, Or.inl rfl, Or.inl rfl, Or.inl rfl, Or.inl rfl, Or.inl rfl, trivial⟩ ?_
      exact hk s
    · refine G_aload_n (x := a0) (pc := 21) dX12_laysBest_21 rfl ?_
      refine G_getR (j := 46) (pc := 22) dX12_laysBest_22 rfl z_CLX12 (by decide) z_wX12_112 (by decide) (fun x6 => ?_)
      refine G_iload_n (x := a2) (pc := 25) dX12_laysBest_25 rfl ?_
      refine G_ldc2 (pc := 26) dX12_laysBest_26 z_wX12_340 ?_
      refine G_last (pc := 29) dX12_laysBest_29 (fun s7 => ?_)
      refine G_iload_n (x := a2) (pc := 30) dX12_laysBest_30 rfl ?_
      refine G_istore_n (lv' := [vR a0, vI a1, vI a2, vI a2, vU, vU]) (pc := 31) dX12_laysBest_31 rfl ?_
      refine gX12_laysBest_L32 hst fu a0 a1 a2 _ (fun s30 => ?_) fu s7 a2
      refine G_iinc (x := a2) (g := fun x31 => [vR a0, vI a1, vI x31, vU, vU, vU]) (pc := 128) dX12_laysBest_128 rfl (fun _ => rfl) (fun x31 => ?_)
      refine G_goto (tgt := 17) (pc := 131) dX12_laysBest_131 ?_
      exact ih s30 x31
def fX12_laysBest (fu : Nat) (s : z_M) (a0 : Int) (a1 : Int) : z_O := if z_ob a0 12 then z_let (z_gr a0 46) (fun x1 => if z_ob a0 12 then z_let (s a0 20) (fun x2 => if z_ix x1 101 x2 then z_let (z_up s x1 x2 0) (fun s3 => if z_ob a0 12 then z_let (s3 a0 20) (fun x4 => z_let (z_w (x4 - 1)) (fun x5 => fX12_laysBest_L17 fu a0 a1 fu s3 x5 (fun s32 => some (vN, s32)))) else none) else none) else none) else none
theorem gX12_laysBest {l : Launch} {K : z_K} (hst : l.stackTraces = false) (fu : Nat) (s : z_M) (a0 : Int) (a1 : Int) : z_D l K mX12_laysBest 8 180 0 0 [vR a0, vI a1] s (fX12_laysBest fu s a0 a1) := by
  refine z_D_of (lv := [vR a0, vI a1, vU, vU, vU, vU]) hst z_mX12_laysBest rfl ?_ (Nat.le_of_ble_eq_true rfl) rfl
  unfold fX12_laysBest
  refine G_aload_n (x := a0) (pc := 0) dX12_laysBest_0 rfl ?_
  refine G_getR (j := 46) (pc := 1) dX12_laysBest_1 rfl z_CLX12 (by decide) z_wX12_112 (by decide) (fun x1 => ?_)
  refine G_aload_n (x := a0) (pc := 4) dX12_laysBest_4 rfl ?_
  refine G_getI (j := 20) (pc := 5) dX12_laysBest_5 rfl z_CLX12 (by decide) z_wX12_242 (by decide) (fun x2 => ?_)
  refine G_lconst (y := 0) (pc := 8) dX12_laysBest_8 ?_
  refine G_last (pc := 9) dX12_laysBest_9 (fun s3 => ?_)
  refine G_aload_n (x := a0) (pc := 10) dX12_laysBest_10 rfl ?_
  refine G_getI (j := 20) (pc := 11) dX12_laysBest_11 rfl z_CLX12 (by decide) z_wX12_242 (by decide) (fun x4 => ?_)
  refine G_iconst (pc := 14) dX12_laysBest_14 ?_
  refine G_isub (pc := 15) dX12_laysBest_15 (fun x5 => ?_)
  refine G_istore_n (lv' := [vR a0, vI a1, vI x5, vU, vU, vU]) (pc := 16) dX12_laysBest_16 rfl ?_
  refine gX12_laysBest_L17 hst fu a0 a1 _ (fun s32 => ?_) fu s3 x5
  exact G_vret (pc := 134) dX12_laysBest_134
def fX12_comes_J58 (fu : Nat) (s : z_M) (a0 : Int) (a1 : Int) (a2 : Int) (a3 : Int) (a4 : Int) (a5 : Int) (r : z_M → Int → Int → Int → z_O) (k : z_M → Int → Int → z_O) : z_O := z_let (z_w (a5 + 1)) (fun x6 => r s a3 a4 x6)
theorem gX12_comes_J58 {l : Launch} {K : z_K} (hst : l.stackTraces = false) (fu : Nat) (s : z_M) (a0 : Int) (a1 : Int) (a2 : Int) (a3 : Int) (a4 : Int) (a5 : Int) (r : z_M → Int → Int → Int → z_O) (k : z_M → Int → Int → z_O) (hr : ∀ (s : z_M) (a3 : Int) (a4 : Int) (a5 : Int), G l K mX12_comes 7 156 0 0 8 [vR a0, vI a1, vI a2, vI a3, vI a4, vI a5] [] s (r s a3 a4 a5)) (hk : ∀ (s : z_M) (a3 : Int) (a4 : Int), G l K mX12_comes 7 156 0 0 64 [vU, vI a1, vU, vI a3, vI a4, vU] [] s (k s a3 a4)) : G l K mX12_comes 7 156 0 0 58 [vR a0, vI a1, vI a2, vI a3, vI a4, vI a5] [] s (fX12_comes_J58 fu s a0 a1 a2 a3 a4 a5 r k) := by
  unfold fX12_comes_J58
  refine G_iinc (x := a5) (g := fun x6 => [vR a0, vI a1, vI a2, vI a3, vI a4, vI x6]) (pc := 58) dX12_comes_58 rfl (fun _ => rfl) (fun x6 => ?_)
  refine G_goto (tgt := 8) (pc := 61) dX12_comes_61 ?_
  exact hr s a3 a4 x6
def fX12_comes_J55 (fu : Nat) (s : z_M) (a0 : Int) (a1 : Int) (a2 : Int) (a4 : Int) (a5 : Int) (r : z_M → Int → Int → Int → z_O) (k : z_M → Int → Int → z_O) : z_O := fX12_comes_J58 fu s a0 a1 a2 a5 a4 a5 (fun w v3 v4 v5 => r w v3 v4 v5) k
theorem gX12_comes_J55 {l : Launch} {K : z_K} (hst : l.stackTraces = false) (fu : Nat) (s : z_M) (a0 : Int) (a1 : Int) (a2 : Int) (a4 : Int) (a5 : Int) (r : z_M → Int → Int → Int → z_O) (k : z_M → Int → Int → z_O) (hr : ∀ (s : z_M) (a3 : Int) (a4 : Int) (a5 : Int), G l K mX12_comes 7 156 0 0 8 [vR a0, vI a1, vI a2, vI a3, vI a4, vI a5] [] s (r s a3 a4 a5)) (hk : ∀ (s : z_M) (a3 : Int) (a4 : Int), G l K mX12_comes 7 156 0 0 64 [vU, vI a1, vU, vI a3, vI a4, vU] [] s (k s a3 a4)) : G l K mX12_comes 7 156 0 0 55 [vR a0, vI a1, vI a2, vU, vI a4, vI a5] [] s (fX12_comes_J55 fu s a0 a1 a2 a4 a5 r k) := by
  unfold fX12_comes_J55
  refine G_iload (x := a5) (pc := 55) dX12_comes_55 rfl ?_
  refine G_istore_n (lv' := [vR a0, vI a1, vI a2, vI a5, vI a4, vI a5]) (pc := 57) dX12_comes_57 rfl ?_
  exact gX12_comes_J58 hst fu s a0 a1 a2 a5 a4 a5 _ _ (fun w v3 v4 v5 => hr w v3 v4 v5) hk
def fX12_comes_L8 (fu : Nat) (a0 : Int) (a1 : Int) (a2 : Int) : Nat → z_M → Int → Int → Int → (z_M → Int → Int → z_O) → z_O
  | 0, _, _, _, _, _ => none
  | F + 1, s, a3, a4, a5, k => if z_ob a0 12 then z_let (s a0 20) (fun x1 => if (x1 : Int) ≤ a5 then (k s a3 a4) else (if z_ob a0 12 then z_bI (fX12_longAs fu s a0 a1 a5) (fun x3 s2 => if (x3 : Int) ≤ a2 then (if z_ob a0 12 then z_let (s2 a0 20) (fun x4 => z_let (z_w (x4 - 1)) (fun x5 => if (a5 : Int) = x5 then (fX12_comes_J55 fu s2 a0 a1 a2 a5 a5 (fun w v3 v4 v5 => fX12_comes_L8 fu a0 a1 a2 F w v3 v4 v5 k) k) else (if z_ob a0 12 then z_bI (fX12_mayEnd fu s2 a0 a5) (fun x8 s7 => if (x8 : Int) = 0 then (fX12_comes_J58 fu s7 a0 a1 a2 a3 a5 a5 (fun w v3 v4 v5 => fX12_comes_L8 fu a0 a1 a2 F w v3 v4 v5 k) k) else (fX12_comes_J55 fu s7 a0 a1 a2 a5 a5 (fun w v3 v4 v5 => fX12_comes_L8 fu a0 a1 a2 F w v3 v4 v5 k) k)) else none))) else none) else (fX12_comes_J58 fu s2 a0 a1 a2 a3 a4 a5 (fun w v3 v4 v5 => fX12_comes_L8 fu a0 a1 a2 F w v3 v4 v5 k) k)) else none)) else none
theorem gX12_comes_L8 {l : Launch} {K : z_K} (hst : l.stackTraces = false) (fu : Nat) (a0 : Int) (a1 : Int) (a2 : Int) (k : z_M → Int → Int → z_O) (hk : ∀ (s : z_M) (a3 : Int) (a4 : Int), G l K mX12_comes 7 156 0 0 64 [vU, vI a1, vU, vI a3, vI a4, vU] [] s (k s a3 a4)) : ∀ (F : Nat) (s : z_M) (a3 : Int) (a4 : Int) (a5 : Int), G l K mX12_comes 7 156 0 0 8 [vR a0, vI a1, vI a2, vI a3, vI a4, vI a5] [] s (fX12_comes_L8 fu a0 a1 a2 F s a3 a4 a5 k) := by
  intro F
  induction F with
  | zero => exact fun s a3 a4 a5 h => absurd rfl h
  | succ F ih =>
    intro s a3 a4 a5
    rw [fX12_comes_L8]
    refine G_iload (x := a5) (pc := 8) dX12_comes_8 rfl ?_
    refine G_aload_n (x := a0) (pc := 10) dX12_comes_10 rfl ?_
    refine G_getI (j := 20) (pc := 11) dX12_comes_11 rfl z_CLX12 (by decide) z_wX12_242 (by decide) (fun x1 => ?_)
    refine G_icmp_ge (tgt := 64) (pc := 14) dX12_comes_14 ?_ ?_
    · refine G_fg (lv2 := [vU, vI a1, vU, vI a3, vI a4, vU]) ⟨Or.inl rfl, Or.inr rfl, Or.inl rfl, Or.inr rfl, Or.inr rfl, Or.inl rfl, trivial⟩ ?_
      exact hk s a3 a4
    · refine G_aload_n (x := a0) (pc := 17) dX12_comes_17 rfl ?_
      refine G_iload_n (x := a1) (pc := 18) dX12_comes_18 rfl ?_
      refine G_iload (x := a5) (pc := 19) dX12_comes_19 rfl ?_
      refine G_callVI (as := [vI a1, vI a5]) (st := []) (c := 12) (bc2 := 0) (bs2 := 0) (pc := 21) dX12_comes_21 z_mX12_longAs z_vX12_longAs z_wX12_332 (gX12_longAs hst fu s a0 a1 a5) rfl rfl (by decide) rfl rfl ⟨by decide, by decide, by decide, by decide, Nat.le_of_ble_eq_true rfl⟩ rfl (fun x3 s2 => ?_)
      refine G_iload_n (x := a2) (pc := 24) dX12_comes_24 rfl ?_
      refine G_icmp_le (tgt := 31) (pc := 25) dX12_comes_25 ?_ ?_
      · refine G_iload (x := a5) (pc := 31) dX12_comes_31 rfl ?_
        refine G_istore (lv' := [vR a0, vI a1, vI a2, vI a3, vI a5, vI a5]) (pc := 33) dX12_comes_33 rfl ?_
        refine G_iload (x := a5) (pc := 35) dX12_comes_35 rfl ?_
        refine G_aload_n (x := a0) (pc := 37) dX12_comes_37 rfl ?_
        refine G_getI (j := 20) (pc := 38) dX12_comes_38 rfl z_CLX12 (by decide) z_wX12_242 (by decide) (fun x4 => ?_)
        refine G_iconst (pc := 41) dX12_comes_41 ?_
        refine G_isub (pc := 42) dX12_comes_42 (fun x5 => ?_)
        refine G_icmp_eq (tgt := 55) (pc := 43) dX12_comes_43 ?_ ?_
        · refine G_fg (lv2 := [vR a0, vI a1, vI a2, vU, vI a5, vI a5]) ⟨Or.inr rfl, Or.inr rfl, Or.inr rfl, Or.inl rfl, Or.inr rfl, Or.inr rfl, trivial⟩ ?_
          exact gX12_comes_J55 hst fu s2 a0 a1 a2 a5 a5 _ _ (fun w v3 v4 v5 => ih w v3 v4 v5) hk
        · refine G_aload_n (x := a0) (pc := 46) dX12_comes_46 rfl ?_
          refine G_iload (x := a5) (pc := 47) dX12_comes_47 rfl ?_
          refine G_callVI (as := [vI a5]) (st := []) (c := 12) (bc2 := 0) (bs2 := 0) (pc := 49) dX12_comes_49 z_mX12_mayEnd z_vX12_mayEnd z_wX12_335 (gX12_mayEnd hst fu s2 a0 a5) rfl rfl (by decide) rfl rfl ⟨by decide, by decide, by decide, by decide, Nat.le_of_ble_eq_true rfl⟩ rfl (fun x8 s7 => ?_)
          refine G_if_eq (tgt := 58) (pc := 52) dX12_comes_52 ?_ ?_
          · exact gX12_comes_J58 hst fu s7 a0 a1 a2 a3 a5 a5 _ _ (fun w v3 v4 v5 => ih w v3 v4 v5) hk
          · refine G_fg (lv2 := [vR a0, vI a1, vI a2, vU, vI a5, vI a5]) ⟨Or.inr rfl, Or.inr rfl, Or.inr rfl, Or.inl rfl, Or.inr rfl, Or.inr rfl, trivial⟩ ?_
            exact gX12_comes_J55 hst fu s7 a0 a1 a2 a5 a5 _ _ (fun w v3 v4 v5 => ih w v3 v4 v5) hk
      · refine G_goto (tgt := 58) (pc := 28) dX12_comes_28 ?_
        exact gX12_comes_J58 hst fu s2 a0 a1 a2 a3 a4 a5 _ _ (fun w v3 v4 v5 => ih w v3 v4 v5) hk
def fX12_comes_J85 (fu : Nat) (s : z_M) (t0 : Int) : z_O := some (vI t0, s)
theorem gX12_comes_J85 {l : Launch} {K : z_K} (hst : l.stackTraces = false) (fu : Nat) (s : z_M) (t0 : Int) : G l K mX12_comes 7 156 0 0 85 [vU, vU, vU, vU, vU, vU] [vI t0] s (fX12_comes_J85 fu s t0) := by
  unfold fX12_comes_J85
  exact G_iret (pc := 85) dX12_comes_85
def fX12_comes (fu : Nat) (s : z_M) (a0 : Int) (a1 : Int) (a2 : Int) : z_O := fX12_comes_L8 fu a0 a1 a2 fu s (-1) (-1) a1 (fun s9 x10 x11 => if (x10 : Int) = (-1) then (if (x11 : Int) = (-1) then (fX12_comes_J85 fu s9 a1) else (fX12_comes_J85 fu s9 x11)) else (fX12_comes_J85 fu s9 x10))
theorem gX12_comes {l : Launch} {K : z_K} (hst : l.stackTraces = false) (fu : Nat) (s : z_M) (a0 : Int) (a1 : Int) (a2 : Int) : z_D l K mX12_comes 7 156 0 0 [vR a0, vI a1, vI a2] s (fX12_comes fu s a0 a1 a2) := by
  refine z_D_of (lv := [vR a0, vI a1, vI a2, vU, vU, vU]) hst z_mX12_comes rfl ?_ (Nat.le_of_ble_eq_true rfl) rfl
  unfold fX12_comes
  refine G_iconst (pc := 0) dX12_comes_0 ?_
  refine G_istore_n (lv' := [vR a0, vI a1, vI a2, vI (-1), vU, vU]) (pc := 1) dX12_comes_1 rfl ?_
  refine G_iconst (pc := 2) dX12_comes_2 ?_
  refine G_istore (lv' := [vR a0, vI a1, vI a2, vI (-1), vI (-1), vU]) (pc := 3) dX12_comes_3 rfl ?_
  refine G_iload_n (x := a1) (pc := 5) dX12_comes_5 rfl ?_
  refine G_istore (lv' := [vR a0, vI a1, vI a2, vI (-1), vI (-1), vI a1]) (pc := 6) dX12_comes_6 rfl ?_
  refine gX12_comes_L8 hst fu a0 a1 a2 _ (fun s9 x10 x11 => ?_) fu s (-1) (-1) a1
  refine G_iload_n (x := x10) (pc := 64) dX12_comes_64 rfl ?_
  refine G_iconst (pc := 65) dX12_comes_65 ?_
  refine G_icmp_eq (tgt := 73) (pc := 66) dX12_comes_66 ?_ ?_
  · refine G_iload (x := x11) (pc := 73) dX12_comes_73 rfl ?_
    refine G_iconst (pc := 75) dX12_comes_75 ?_
    refine G_icmp_eq (tgt := 84) (pc := 76) dX12_comes_76 ?_ ?_
    · refine G_iload_n (x := a1) (pc := 84) dX12_comes_84 rfl ?_
      refine G_fg (lv2 := [vU, vU, vU, vU, vU, vU]) ⟨Or.inl rfl, Or.inl rfl, Or.inl rfl, Or.inl rfl, Or.inl rfl, Or.inl rfl, trivial⟩ ?_
      exact gX12_comes_J85 hst fu s9 a1
    · refine G_iload (x := x11) (pc := 79) dX12_comes_79 rfl ?_
      refine G_goto (tgt := 85) (pc := 81) dX12_comes_81 ?_
      refine G_fg (lv2 := [vU, vU, vU, vU, vU, vU]) ⟨Or.inl rfl, Or.inl rfl, Or.inl rfl, Or.inl rfl, Or.inl rfl, Or.inl rfl, trivial⟩ ?_
      exact gX12_comes_J85 hst fu s9 x11
  · refine G_iload_n (x := x10) (pc := 69) dX12_comes_69 rfl ?_
    refine G_goto (tgt := 85) (pc := 70) dX12_comes_70 ?_
    refine G_fg (lv2 := [vU, vU, vU, vU, vU, vU]) ⟨Or.inl rfl, Or.inl rfl, Or.inl rfl, Or.inl rfl, Or.inl rfl, Or.inl rfl, trivial⟩ ?_
    exact gX12_comes_J85 hst fu s9 x10
def fX12_breaks_J57 (fu : Nat) (s : z_M) (a0 : Int) (a1 : Int) (a2 : Int) (a3 : Int) (t0 : Int) (r : z_M → Int → Int → z_O) (k : z_M → Int → z_O) : z_O := z_let (z_w (t0 + 1)) (fun x7 => r s a3 x7)
theorem gX12_breaks_J57 {l : Launch} {K : z_K} (hst : l.stackTraces = false) (fu : Nat) (s : z_M) (a0 : Int) (a1 : Int) (a2 : Int) (a3 : Int) (t0 : Int) (r : z_M → Int → Int → z_O) (k : z_M → Int → z_O) (hr : ∀ (s : z_M) (a3 : Int) (a4 : Int), G l K mX12_breaks 9 205 0 0 15 [vR a0, vI a1, vI a2, vI a3, vI a4] [] s (r s a3 a4)) (hk : ∀ (s : z_M) (a3 : Int), G l K mX12_breaks 9 205 0 0 64 [vR a0, vU, vU, vI a3, vU] [] s (k s a3)) : G l K mX12_breaks 9 205 0 0 57 [vR a0, vI a1, vI a2, vI a3, vU] [vI t0] s (fX12_breaks_J57 fu s a0 a1 a2 a3 t0 r k) := by
  unfold fX12_breaks_J57
  refine G_iconst (pc := 57) dX12_breaks_57 ?_
  refine G_iadd (pc := 58) dX12_breaks_58 (fun x7 => ?_)
  refine G_istore (lv' := [vR a0, vI a1, vI a2, vI a3, vI x7]) (pc := 59) dX12_breaks_59 rfl ?_
  refine G_goto (tgt := 15) (pc := 61) dX12_breaks_61 ?_
  exact hr s a3 x7
def fX12_breaks_L15 (fu : Nat) (a0 : Int) (a1 : Int) (a2 : Int) : Nat → z_M → Int → Int → (z_M → Int → z_O) → z_O
  | 0, _, _, _, _ => none
  | F + 1, s, a3, a4, k => if z_ob a0 12 then z_let (s a0 20) (fun x1 => if (x1 : Int) ≤ a4 then (k s a3) else (if z_ob a0 12 then z_let (z_gr a0 45) (fun x2 => if z_ix x2 100 a3 then z_let (z_up s x2 a3 a4) (fun s3 => z_let (z_w (a3 + 1)) (fun x4 => if (a2 : Int) ≠ 1 then (if z_ob a0 12 then z_bI (fX12_comes fu s3 a0 a4 a1) (fun x6 s5 => fX12_breaks_J57 fu s5 a0 a1 a2 x4 x6 (fun w v3 v4 => fX12_breaks_L15 fu a0 a1 a2 F w v3 v4 k) k) else none) else (if z_ob a0 12 then z_let (z_gr a0 47) (fun x8 => if z_ix x8 100 a4 then z_let (s3 x8 a4) (fun x9 => fX12_breaks_J57 fu s3 a0 a1 a2 x4 x9 (fun w v3 v4 => fX12_breaks_L15 fu a0 a1 a2 F w v3 v4 k) k) else none) else none))) else none) else none)) else none
theorem gX12_breaks_L15 {l : Launch} {K : z_K} (hst : l.stackTraces = false) (fu : Nat) (a0 : Int) (a1 : Int) (a2 : Int) (k : z_M → Int → z_O) (hk : ∀ (s : z_M) (a3 : Int), G l K mX12_breaks 9 205 0 0 64 [vR a0, vU, vU, vI a3, vU] [] s (k s a3)) : ∀ (F : Nat) (s : z_M) (a3 : Int) (a4 : Int), G l K mX12_breaks 9 205 0 0 15 [vR a0, vI a1, vI a2, vI a3, vI a4] [] s (fX12_breaks_L15 fu a0 a1 a2 F s a3 a4 k) := by
  intro F
  induction F with
  | zero => exact fun s a3 a4 h => absurd rfl h
  | succ F ih =>
    intro s a3 a4
    rw [fX12_breaks_L15]
    refine G_iload (x := a4) (pc := 15) dX12_breaks_15 rfl ?_
    refine G_aload_n (x := a0) (pc := 17) dX12_breaks_17 rfl ?_
    refine G_getI (j := 20) (pc := 18) dX12_breaks_18 rfl z_CLX12 (by decide) z_wX12_242 (by decide) (fun x1 => ?_)
    refine G_icmp_ge (tgt := 64) (pc := 21) dX12_breaks_21 ?_ ?_
    · refine G_fg (lv2 := [vR a0, vU, vU, vI a3, vU]) ⟨Or.inr rfl, Or.inl rfl, Or.inl rfl, Or.inr rfl, Or.inl rfl, trivial⟩ ?_
      exact hk s a3
    · refine G_aload_n (x := a0) (pc := 24) dX12_breaks_24 rfl ?_
      refine G_getR (j := 45) (pc := 25) dX12_breaks_25 rfl z_CLX12 (by decide) z_wX12_109 (by decide) (fun x2 => ?_)
      refine G_iload_n (x := a3) (pc := 28) dX12_breaks_28 rfl ?_
      refine G_iload (x := a4) (pc := 29) dX12_breaks_29 rfl ?_
      refine G_iast (pc := 31) dX12_breaks_31 (fun s3 => ?_)
      refine G_iinc (x := a3) (g := fun x4 => [vR a0, vI a1, vI a2, vI x4, vI a4]) (pc := 32) dX12_breaks_32 rfl (fun _ => rfl) (fun x4 => ?_)
      refine G_iload_n (x := a2) (pc := 35) dX12_breaks_35 rfl ?_
      refine G_iconst (pc := 36) dX12_breaks_36 ?_
      refine G_icmp_ne (tgt := 50) (pc := 37) dX12_breaks_37 ?_ ?_
      · refine G_aload_n (x := a0) (pc := 50) dX12_breaks_50 rfl ?_
        refine G_iload (x := a4) (pc := 51) dX12_breaks_51 rfl ?_
        refine G_iload_n (x := a1) (pc := 53) dX12_breaks_53 rfl ?_
        refine G_callVI (as := [vI a4, vI a1]) (st := []) (c := 12) (bc2 := 0) (bs2 := 0) (pc := 54) dX12_breaks_54 z_mX12_comes z_vX12_comes z_wX12_349 (gX12_comes hst fu s3 a0 a4 a1) rfl rfl (by decide) rfl rfl ⟨by decide, by decide, by decide, by decide, Nat.le_of_ble_eq_true rfl⟩ rfl (fun x6 s5 => ?_)
        refine G_fg (lv2 := [vR a0, vI a1, vI a2, vI x4, vU]) ⟨Or.inr rfl, Or.inr rfl, Or.inr rfl, Or.inr rfl, Or.inl rfl, trivial⟩ ?_
        exact gX12_breaks_J57 hst fu s5 a0 a1 a2 x4 x6 _ _ (fun w v3 v4 => ih w v3 v4) hk
      · refine G_aload_n (x := a0) (pc := 40) dX12_breaks_40 rfl ?_
        refine G_getR (j := 47) (pc := 41) dX12_breaks_41 rfl z_CLX12 (by decide) z_wX12_116 (by decide) (fun x8 => ?_)
        refine G_iload (x := a4) (pc := 44) dX12_breaks_44 rfl ?_
        refine G_iald (pc := 46) dX12_breaks_46 (fun x9 => ?_)
        refine G_goto (tgt := 57) (pc := 47) dX12_breaks_47 ?_
        refine G_fg (lv2 := [vR a0, vI a1, vI a2, vI x4, vU]) ⟨Or.inr rfl, Or.inr rfl, Or.inr rfl, Or.inr rfl, Or.inl rfl, trivial⟩ ?_
        exact gX12_breaks_J57 hst fu s3 a0 a1 a2 x4 x9 _ _ (fun w v3 v4 => ih w v3 v4) hk
def fX12_breaks (fu : Nat) (s : z_M) (a0 : Int) (a1 : Int) (a2 : Int) : z_O := if (a2 : Int) ≠ 1 then (fX12_breaks_L15 fu a0 a1 a2 fu s 0 0 (fun s10 x11 => if z_ob a0 12 then z_let (z_gr a0 45) (fun x12 => if z_ob a0 12 then z_let (s10 a0 20) (fun x13 => if z_ix x12 100 x11 then z_let (z_up s10 x12 x11 x13) (fun s14 => some (vI x11, s14)) else none) else none) else none)) else (if z_ob a0 12 then z_bN (fX12_laysBest fu s a0 a1) (fun s15 => fX12_breaks_L15 fu a0 a1 a2 fu s15 0 0 (fun s16 x17 => if z_ob a0 12 then z_let (z_gr a0 45) (fun x18 => if z_ob a0 12 then z_let (s16 a0 20) (fun x19 => if z_ix x18 100 x17 then z_let (z_up s16 x18 x17 x19) (fun s20 => some (vI x17, s20)) else none) else none) else none)) else none)
theorem gX12_breaks {l : Launch} {K : z_K} (hst : l.stackTraces = false) (fu : Nat) (s : z_M) (a0 : Int) (a1 : Int) (a2 : Int) : z_D l K mX12_breaks 9 205 0 0 [vR a0, vI a1, vI a2] s (fX12_breaks fu s a0 a1 a2) := by
  refine z_D_of (lv := [vR a0, vI a1, vI a2, vU, vU]) hst z_mX12_breaks rfl ?_ (Nat.le_of_ble_eq_true rfl) rfl
  unfold fX12_breaks
  refine G_iconst (pc := 0) dX12_breaks_0 ?_
  refine G_istore_n (lv' := [vR a0, vI a1, vI a2, vI 0, vU]) (pc := 1) dX12_breaks_1 rfl ?_
  refine G_iconst (pc := 2) dX12_breaks_2 ?_
  refine G_istore (lv' := [vR a0, vI a1, vI a2, vI 0, vI 0]) (pc := 3) dX12_breaks_3 rfl ?_
  refine G_iload_n (x := a2) (pc := 5) dX12_breaks_5 rfl ?_
  refine G_iconst (pc := 6) dX12_breaks_6 ?_
  refine G_icmp_ne (tgt := 15) (pc := 7) dX12_breaks_7 ?_ ?_
  · refine gX12_breaks_L15 hst fu a0 a1 a2 _ (fun s10 x11 => ?_) fu s 0 0
    refine G_aload_n (x := a0) (pc := 64) dX12_breaks_64 rfl ?_
    refine G_getR (j := 45) (pc := 65) dX12_breaks_65 rfl z_CLX12 (by decide) z_wX12_109 (by decide) (fun x12 => ?_)
    refine G_iload_n (x := x11) (pc := 68) dX12_breaks_68 rfl ?_
    refine G_aload_n (x := a0) (pc := 69) dX12_breaks_69 rfl ?_
    refine G_getI (j := 20) (pc := 70) dX12_breaks_70 rfl z_CLX12 (by decide) z_wX12_242 (by decide) (fun x13 => ?_)
    refine G_iast (pc := 73) dX12_breaks_73 (fun s14 => ?_)
    refine G_iload_n (x := x11) (pc := 74) dX12_breaks_74 rfl ?_
    exact G_iret (pc := 75) dX12_breaks_75
  · refine G_aload_n (x := a0) (pc := 10) dX12_breaks_10 rfl ?_
    refine G_iload_n (x := a1) (pc := 11) dX12_breaks_11 rfl ?_
    refine G_callVN (as := [vI a1]) (st := []) (c := 12) (bc2 := 0) (bs2 := 0) (pc := 12) dX12_breaks_12 z_mX12_laysBest z_vX12_laysBest z_wX12_346 (gX12_laysBest hst fu s a0 a1) rfl rfl (by decide) rfl rfl ⟨by decide, by decide, by decide, by decide, Nat.le_of_ble_eq_true rfl⟩ rfl (fun s15 => ?_)
    refine gX12_breaks_L15 hst fu a0 a1 a2 _ (fun s16 x17 => ?_) fu s15 0 0
    refine G_aload_n (x := a0) (pc := 64) dX12_breaks_64 rfl ?_
    refine G_getR (j := 45) (pc := 65) dX12_breaks_65 rfl z_CLX12 (by decide) z_wX12_109 (by decide) (fun x18 => ?_)
    refine G_iload_n (x := x17) (pc := 68) dX12_breaks_68 rfl ?_
    refine G_aload_n (x := a0) (pc := 69) dX12_breaks_69 rfl ?_
    refine G_getI (j := 20) (pc := 70) dX12_breaks_70 rfl z_CLX12 (by decide) z_wX12_242 (by decide) (fun x19 => ?_)
    refine G_iast (pc := 73) dX12_breaks_73 (fun s20 => ?_)
    refine G_iload_n (x := x17) (pc := 74) dX12_breaks_74 rfl ?_
    exact G_iret (pc := 75) dX12_breaks_75
def fX12_isGap_J64 (fu : Nat) (s : z_M) (t0 : Int) : z_O := if z_bl t0 then some (vI t0, s) else none
theorem gX12_isGap_J64 {l : Launch} {K : z_K} (hst : l.stackTraces = false) (fu : Nat) (s : z_M) (t0 : Int) : G l K mX12_isGap 7 155 0 0 64 [vU, vU, vU] [vI t0] s (fX12_isGap_J64 fu s t0) := by
  unfold fX12_isGap_J64
  exact G_zret (pc := 64) dX12_isGap_64
def fX12_isGap_J63 (fu : Nat) (s : z_M) : z_O := fX12_isGap_J64 fu s 0
theorem gX12_isGap_J63 {l : Launch} {K : z_K} (hst : l.stackTraces = false) (fu : Nat) (s : z_M) : G l K mX12_isGap 7 155 0 0 63 [vU, vU, vU] [] s (fX12_isGap_J63 fu s) := by
  unfold fX12_isGap_J63
  refine G_iconst (pc := 63) dX12_isGap_63 ?_
  exact gX12_isGap_J64 hst fu s 0
def fX12_isGap_J59 (fu : Nat) (s : z_M) : z_O := fX12_isGap_J64 fu s 1
theorem gX12_isGap_J59 {l : Launch} {K : z_K} (hst : l.stackTraces = false) (fu : Nat) (s : z_M) : G l K mX12_isGap 7 155 0 0 59 [vU, vU, vU] [] s (fX12_isGap_J59 fu s) := by
  unfold fX12_isGap_J59
  refine G_iconst (pc := 59) dX12_isGap_59 ?_
  refine G_goto (tgt := 64) (pc := 60) dX12_isGap_60 ?_
  exact gX12_isGap_J64 hst fu s 1
def fX12_isGap (fu : Nat) (s : z_M) (a0 : Int) (a1 : Int) (a2 : Int) : z_O := if (a2 : Int) ≤ a1 then (fX12_isGap_J63 fu s) else (if z_ob a0 12 then z_bI (fX12_mayEnd fu s a0 a1) (fun x2 s1 => if (x2 : Int) = 0 then (fX12_isGap_J63 fu s1) else (if z_ob a0 12 then z_let (z_gr a0 25) (fun x3 => if z_ix x3 100 a1 then z_let (s1 x3 a1) (fun x4 => if (x4 : Int) ≤ 0 then (fX12_isGap_J63 fu s1) else (if z_ob a0 12 then z_let (z_gr a0 25) (fun x5 => z_let (z_w (a1 + 1)) (fun x6 => if z_ix x5 100 x6 then z_let (s1 x5 x6) (fun x7 => if (x7 : Int) ≤ 0 then (fX12_isGap_J63 fu s1) else (if z_ob a0 12 then z_let (z_gr a0 21) (fun x8 => if z_ix x8 100 a1 then z_let (s1 x8 a1) (fun x9 => if (x9 : Int) ≠ 7 then (fX12_isGap_J59 fu s1) else (if z_ob a0 12 then z_bI (fX12_group fu s1 a0 a1) (fun x11 s10 => z_let (z_w (a1 + 1)) (fun x12 => if z_ob a0 12 then z_bI (fX12_group fu s10 a0 x12) (fun x14 s13 => if (x11 : Int) = x14 then (fX12_isGap_J63 fu s13) else (fX12_isGap_J59 fu s13)) else none)) else none)) else none) else none)) else none)) else none)) else none) else none)) else none)
theorem gX12_isGap {l : Launch} {K : z_K} (hst : l.stackTraces = false) (fu : Nat) (s : z_M) (a0 : Int) (a1 : Int) (a2 : Int) : z_D l K mX12_isGap 7 155 0 0 [vR a0, vI a1, vI a2] s (fX12_isGap fu s a0 a1 a2) := by
  refine z_D_of (lv := [vR a0, vI a1, vI a2]) hst z_mX12_isGap rfl ?_ (Nat.le_of_ble_eq_true rfl) rfl
  unfold fX12_isGap
  refine G_iload_n (x := a1) (pc := 0) dX12_isGap_0 rfl ?_
  refine G_iload_n (x := a2) (pc := 1) dX12_isGap_1 rfl ?_
  refine G_icmp_ge (tgt := 63) (pc := 2) dX12_isGap_2 ?_ ?_
  · refine G_fg (lv2 := [vU, vU, vU]) ⟨Or.inl rfl, Or.inl rfl, Or.inl rfl, trivial⟩ ?_
    exact gX12_isGap_J63 hst fu s
  · refine G_aload_n (x := a0) (pc := 5) dX12_isGap_5 rfl ?_
    refine G_iload_n (x := a1) (pc := 6) dX12_isGap_6 rfl ?_
    refine G_callVI (as := [vI a1]) (st := []) (c := 12) (bc2 := 0) (bs2 := 0) (pc := 7) dX12_isGap_7 z_mX12_mayEnd z_vX12_mayEnd z_wX12_335 (gX12_mayEnd hst fu s a0 a1) rfl rfl (by decide) rfl rfl ⟨by decide, by decide, by decide, by decide, Nat.le_of_ble_eq_true rfl⟩ rfl (fun x2 s1 => ?_)
    refine G_if_eq (tgt := 63) (pc := 10) dX12_isGap_10 ?_ ?_
    · refine G_fg (lv2 := [vU, vU, vU]) ⟨Or.inl rfl, Or.inl rfl, Or.inl rfl, trivial⟩ ?_
      exact gX12_isGap_J63 hst fu s1
    · refine G_aload_n (x := a0) (pc := 13) dX12_isGap_13 rfl ?_
      refine G_getR (j := 25) (pc := 14) dX12_isGap_14 rfl z_CLX12 (by decide) z_wX12_66 (by decide) (fun x3 => ?_)
      refine G_iload_n (x := a1) (pc := 17) dX12_isGap_17 rfl ?_
      refine G_iald (pc := 18) dX12_isGap_18 (fun x4 => ?_)
      refine G_if_le (tgt := 63) (pc := 19) dX12_isGap_19 ?_ ?_
      · refine G_fg (lv2 := [vU, vU, vU]) ⟨Or.inl rfl, Or.inl rfl, Or.inl rfl, trivial⟩ ?_
        exact gX12_isGap_J63 hst fu s1
      · refine G_aload_n (x := a0) (pc := 22) dX12_isGap_22 rfl ?_
        refine G_getR (j := 25) (pc := 23) dX12_isGap_23 rfl z_CLX12 (by decide) z_wX12_66 (by decide) (fun x5 => ?_)
        refine G_iload_n (x := a1) (pc := 26) dX12_isGap_26 rfl ?_
        refine G_iconst (pc := 27) dX12_isGap_27 ?_
        refine G_iadd (pc := 28) dX12_isGap_28 (fun x6 => ?_)
        refine G_iald (pc := 29) dX12_isGap_29 (fun x7 => ?_)
        refine G_if_le (tgt := 63) (pc := 30) dX12_isGap_30 ?_ ?_
        · refine G_fg (lv2 := [vU, vU, vU]) ⟨Or.inl rfl, Or.inl rfl, Or.inl rfl, trivial⟩ ?_
          exact gX12_isGap_J63 hst fu s1
        · refine G_aload_n (x := a0) (pc := 33) dX12_isGap_33 rfl ?_
          refine G_getR (j := 21) (pc := 34) dX12_isGap_34 rfl z_CLX12 (by decide) z_wX12_54 (by decide) (fun x8 => ?_)
          refine G_iload_n (x := a1) (pc := 37) dX12_isGap_37 rfl ?_
          refine G_iald (pc := 38) dX12_isGap_38 (fun x9 => ?_)
          refine G_bipush (pc := 39) dX12_isGap_39 ?_
          refine G_icmp_ne (tgt := 59) (pc := 41) dX12_isGap_41 ?_ ?_
          · refine G_fg (lv2 := [vU, vU, vU]) ⟨Or.inl rfl, Or.inl rfl, Or.inl rfl, trivial⟩ ?_
            exact gX12_isGap_J59 hst fu s1
          · refine G_aload_n (x := a0) (pc := 44) dX12_isGap_44 rfl ?_
            refine G_iload_n (x := a1) (pc := 45) dX12_isGap_45 rfl ?_
            refine G_callVI (as := [vI a1]) (st := []) (c := 12) (bc2 := 0) (bs2 := 0) (pc := 46) dX12_isGap_46 z_mX12_group z_vX12_group z_wX12_288 (gX12_group hst fu s1 a0 a1) rfl rfl (by decide) rfl rfl ⟨by decide, by decide, by decide, by decide, Nat.le_of_ble_eq_true rfl⟩ rfl (fun x11 s10 => ?_)
            refine G_aload_n (x := a0) (pc := 49) dX12_isGap_49 rfl ?_
            refine G_iload_n (x := a1) (pc := 50) dX12_isGap_50 rfl ?_
            refine G_iconst (pc := 51) dX12_isGap_51 ?_
            refine G_iadd (pc := 52) dX12_isGap_52 (fun x12 => ?_)
            refine G_callVI (as := [vI x12]) (st := [vI x11]) (c := 12) (bc2 := 0) (bs2 := 0) (pc := 53) dX12_isGap_53 z_mX12_group z_vX12_group z_wX12_288 (gX12_group hst fu s10 a0 x12) rfl rfl (by decide) rfl rfl ⟨by decide, by decide, by decide, by decide, Nat.le_of_ble_eq_true rfl⟩ rfl (fun x14 s13 => ?_)
            refine G_icmp_eq (tgt := 63) (pc := 56) dX12_isGap_56 ?_ ?_
            · refine G_fg (lv2 := [vU, vU, vU]) ⟨Or.inl rfl, Or.inl rfl, Or.inl rfl, trivial⟩ ?_
              exact gX12_isGap_J63 hst fu s13
            · refine G_fg (lv2 := [vU, vU, vU]) ⟨Or.inl rfl, Or.inl rfl, Or.inl rfl, trivial⟩ ?_
              exact gX12_isGap_J59 hst fu s13
def fX12_addsBlock (fu : Nat) (s : z_M) (a0 : Int) (a1 : Int) (a2 : Int) : z_O := if z_ob a0 12 then z_let (z_gr a0 59) (fun x1 => if z_ob a0 12 then z_let (s a0 58) (fun x2 => if z_ix x1 103 x2 then z_let (z_gr x1 x2) (fun x3 => if z_ob a0 12 then z_let (z_gr a0 30) (fun x4 => if z_ix x4 100 a1 then z_let (s x4 a1) (fun x5 => z_let (z_w (a1 + x5)) (fun x6 => z_let (z_w (x6 - 1)) (fun x7 => if z_ix x3 100 0 then z_let (z_up s x3 0 a1) (fun s8 => if z_ob a0 12 then z_let (z_gr a0 30) (fun x9 => if z_ix x9 100 a1 then z_let (s8 x9 a1) (fun x10 => if z_ix x3 100 1 then z_let (z_up s8 x3 1 x10) (fun s11 => if z_ob a0 12 then z_let (z_gr a0 34) (fun x12 => if z_ix x12 100 a1 then z_let (s11 x12 a1) (fun x13 => if z_ix x3 100 2 then z_let (z_up s11 x3 2 x13) (fun s14 => if z_ob a0 12 then z_let (z_gr a0 33) (fun x15 => if z_ix x15 100 a1 then z_let (s14 x15 a1) (fun x16 => if z_ix x3 100 3 then z_let (z_up s14 x3 3 x16) (fun s17 => if z_ob a0 12 then z_let (z_gr a0 31) (fun x18 => if z_ix x18 100 a1 then z_let (s17 x18 a1) (fun x19 => if z_ob a0 12 then z_let (z_gr a0 28) (fun x20 => if z_ix x20 100 a1 then z_let (s17 x20 a1) (fun x21 => z_let (z_w (x19 - x21)) (fun x22 => if z_ix x3 100 4 then z_let (z_up s17 x3 4 x22) (fun s23 => if z_ob a0 12 then z_let (z_gr a0 32) (fun x24 => if z_ix x24 100 x7 then z_let (s23 x24 x7) (fun x25 => if z_ob a0 12 then z_let (z_gr a0 29) (fun x26 => if z_ix x26 100 x7 then z_let (s23 x26 x7) (fun x27 => z_let (z_w (x25 - x27)) (fun x28 => if z_ix x3 100 5 then z_let (z_up s23 x3 5 x28) (fun s29 => if z_ob a0 12 then z_let (z_gr a0 28) (fun x30 => if z_ix x30 100 a1 then z_let (s29 x30 a1) (fun x31 => if z_ix x3 100 6 then z_let (z_up s29 x3 6 x31) (fun s32 => if z_ob a0 12 then z_let (z_gr a0 29) (fun x33 => if z_ix x33 100 x7 then z_let (s32 x33 x7) (fun x34 => if z_ix x3 100 7 then z_let (z_up s32 x3 7 x34) (fun s35 => if z_ob a0 12 then z_let (s35 a0 58) (fun x36 => z_let (z_w (x36 + 1)) (fun x37 => if z_ob a0 12 then z_let (z_up s35 a0 58 x37) (fun s38 => if z_ob a0 12 then z_let (z_gr a0 55) (fun x39 => if z_ix x39 100 a2 then z_let (s38 x39 a2) (fun x40 => z_let (z_w (x40 + 1)) (fun x41 => if z_ix x39 100 a2 then z_let (z_up s38 x39 a2 x41) (fun s42 => some (vN, s42)) else none)) else none) else none) else none)) else none) else none) else none) else none) else none) else none) else none) else none)) else none) else none) else none) else none) else none)) else none) else none) else none) else none) else none) else none) else none) else none) else none) else none) else none) else none) else none) else none))) else none) else none) else none) else none) else none
theorem gX12_addsBlock {l : Launch} {K : z_K} (hst : l.stackTraces = false) (fu : Nat) (s : z_M) (a0 : Int) (a1 : Int) (a2 : Int) : z_D l K mX12_addsBlock 0 0 0 0 [vR a0, vI a1, vI a2] s (fX12_addsBlock fu s a0 a1 a2) := by
  refine z_D_of (lv := [vR a0, vI a1, vI a2, vU, vU]) hst z_mX12_addsBlock rfl ?_ (Nat.le_of_ble_eq_true rfl) rfl
  unfold fX12_addsBlock
  refine G_aload_n (x := a0) (pc := 0) dX12_addsBlock_0 rfl ?_
  refine G_getR (j := 59) (pc := 1) dX12_addsBlock_1 rfl z_CLX12 (by decide) z_wX12_149 (by decide) (fun x1 => ?_)
  refine G_aload_n (x := a0) (pc := 4) dX12_addsBlock_4 rfl ?_
  refine G_getI (j := 58) (pc := 5) dX12_addsBlock_5 rfl z_CLX12 (by decide) z_wX12_359 (by decide) (fun x2 => ?_)
  refine G_aald103 (pc := 8) dX12_addsBlock_8 (fun x3 => ?_)
  refine G_astore_n (lv' := [vR a0, vI a1, vI a2, vR x3, vU]) (pc := 9) dX12_addsBlock_9 rfl ?_
  refine G_iload_n (x := a1) (pc := 10) dX12_addsBlock_10 rfl ?_
  refine G_aload_n (x := a0) (pc := 11) dX12_addsBlock_11 rfl ?_
  refine G_getR (j := 30) (pc := 12) dX12_addsBlock_12 rfl z_CLX12 (by decide) z_wX12_81 (by decide) (fun x4 => ?_)
  refine G_iload_n (x := a1) (pc := 15) dX12_addsBlock_15 rfl ?_
  refine G_iald (pc := 16) dX12_addsBlock_16 (fun x5 => ?_)
  refine G_iadd (pc := 17) dX12_addsBlock_17 (fun x6 => ?_)
  refine G_iconst (pc := 18) dX12_addsBlock_18 ?_
  refine G_isub (pc := 19) dX12_addsBlock_19 (fun x7 => ?_)
  refine G_istore (lv' := [vR a0, vI a1, vI a2, vR x3, vI x7]) (pc := 20) dX12_addsBlock_20 rfl ?_
  refine G_aload_n (x := x3) (pc := 22) dX12_addsBlock_22 rfl ?_
  refine G_iconst (pc := 23) dX12_addsBlock_23 ?_
  refine G_iload_n (x := a1) (pc := 24) dX12_addsBlock_24 rfl ?_
  refine G_iast (pc := 25) dX12_addsBlock_25 (fun s8 => ?_)
  refine G_aload_n (x := x3) (pc := 26) dX12_addsBlock_26 rfl ?_
  refine G_iconst (pc := 27) dX12_addsBlock_27 ?_
  refine G_aload_n (x := a0) (pc := 28) dX12_addsBlock_28 rfl ?_
  refine G_getR (j := 30) (pc := 29) dX12_addsBlock_29 rfl z_CLX12 (by decide) z_wX12_81 (by decide) (fun x9 => ?_)
  refine G_iload_n (x := a1) (pc := 32) dX12_addsBlock_32 rfl ?_
  refine G_iald (pc := 33) dX12_addsBlock_33 (fun x10 => ?_)
  refine G_iast (pc := 34) dX12_addsBlock_34 (fun s11 => ?_)
  refine G_aload_n (x := x3) (pc := 35) dX12_addsBlock_35 rfl ?_
  refine G_iconst (pc := 36) dX12_addsBlock_36 ?_
  refine G_aload_n (x := a0) (pc := 37) dX12_addsBlock_37 rfl ?_
  refine G_getR (j := 34) (pc := 38) dX12_addsBlock_38 rfl z_CLX12 (by decide) z_wX12_93 (by decide) (fun x12 => ?_)
  refine G_iload_n (x := a1) (pc := 41) dX12_addsBlock_41 rfl ?_
  refine G_iald (pc := 42) dX12_addsBlock_42 (fun x13 => ?_)
  refine G_iast (pc := 43) dX12_addsBlock_43 (fun s14 => ?_)
  refine G_aload_n (x := x3) (pc := 44) dX12_addsBlock_44 rfl ?_
  refine G_iconst (pc := 45) dX12_addsBlock_45 ?_
  refine G_aload_n (x := a0) (pc := 46) dX12_addsBlock_46 rfl ?_
  refine G_getR (j := 33) (pc := 47) dX12_addsBlock_47 rfl z_CLX12 (by decide) z_wX12_90 (by decide) (fun x15 => ?_)
  refine G_iload_n (x := a1) (pc := 50) dX12_addsBlock_50 rfl ?_
  refine G_iald (pc := 51) dX12_addsBlock_51 (fun x16 => ?_)
  refine G_iast (pc := 52) dX12_addsBlock_52 (fun s17 => ?_)
  refine G_aload_n (x := x3) (pc := 53) dX12_addsBlock_53 rfl ?_
  refine G_iconst (pc := 54) dX12_addsBlock_54 ?_
  refine G_aload_n (x := a0) (pc := 55) dX12_addsBlock_55 rfl ?_
  refine G_getR (j := 31) (pc := 56) dX12_addsBlock_56 rfl z_CLX12 (by decide) z_wX12_84 (by decide) (fun x18 => ?_)
  refine G_iload_n (x := a1) (pc := 59) dX12_addsBlock_59 rfl ?_
  refine G_iald (pc := 60) dX12_addsBlock_60 (fun x19 => ?_)
  refine G_aload_n (x := a0) (pc := 61) dX12_addsBlock_61 rfl ?_
  refine G_getR (j := 28) (pc := 62) dX12_addsBlock_62 rfl z_CLX12 (by decide) z_wX12_75 (by decide) (fun x20 => ?_)
  refine G_iload_n (x := a1) (pc := 65) dX12_addsBlock_65 rfl ?_
  refine G_iald (pc := 66) dX12_addsBlock_66 (fun x21 => ?_)
  refine G_isub (pc := 67) dX12_addsBlock_67 (fun x22 => ?_)
  refine G_iast (pc := 68) dX12_addsBlock_68 (fun s23 => ?_)
  refine G_aload_n (x := x3) (pc := 69) dX12_addsBlock_69 rfl ?_
  refine G_iconst (pc := 70) dX12_addsBlock_70 ?_
  refine G_aload_n (x := a0) (pc := 71) dX12_addsBlock_71 rfl ?_
  refine G_getR (j := 32) (pc := 72) dX12_addsBlock_72 rfl z_CLX12 (by decide) z_wX12_87 (by decide) (fun x24 => ?_)
  refine G_iload (x := x7) (pc := 75) dX12_addsBlock_75 rfl ?_
  refine G_iald (pc := 77) dX12_addsBlock_77 (fun x25 => ?_)
  refine G_aload_n (x := a0) (pc := 78) dX12_addsBlock_78 rfl ?_
  refine G_getR (j := 29) (pc := 79) dX12_addsBlock_79 rfl z_CLX12 (by decide) z_wX12_78 (by decide) (fun x26 => ?_)
  refine G_iload (x := x7) (pc := 82) dX12_addsBlock_82 rfl ?_
  refine G_iald (pc := 84) dX12_addsBlock_84 (fun x27 => ?_)
  refine G_isub (pc := 85) dX12_addsBlock_85 (fun x28 => ?_)
  refine G_iast (pc := 86) dX12_addsBlock_86 (fun s29 => ?_)
  refine G_aload_n (x := x3) (pc := 87) dX12_addsBlock_87 rfl ?_
  refine G_bipush (pc := 88) dX12_addsBlock_88 ?_
  refine G_aload_n (x := a0) (pc := 90) dX12_addsBlock_90 rfl ?_
  refine G_getR (j := 28) (pc := 91) dX12_addsBlock_91 rfl z_CLX12 (by decide) z_wX12_75 (by decide) (fun x30 => ?_)
  refine G_iload_n (x := a1) (pc := 94) dX12_addsBlock_94 rfl ?_
  refine G_iald (pc := 95) dX12_addsBlock_95 (fun x31 => ?_)
  refine G_iast (pc := 96) dX12_addsBlock_96 (fun s32 => ?_)
  refine G_aload_n (x := x3) (pc := 97) dX12_addsBlock_97 rfl ?_
  refine G_bipush (pc := 98) dX12_addsBlock_98 ?_
  refine G_aload_n (x := a0) (pc := 100) dX12_addsBlock_100 rfl ?_
  refine G_getR (j := 29) (pc := 101) dX12_addsBlock_101 rfl z_CLX12 (by decide) z_wX12_78 (by decide) (fun x33 => ?_)
  refine G_iload (x := x7) (pc := 104) dX12_addsBlock_104 rfl ?_
  refine G_iald (pc := 106) dX12_addsBlock_106 (fun x34 => ?_)
  refine G_iast (pc := 107) dX12_addsBlock_107 (fun s35 => ?_)
  refine G_aload_n (x := a0) (pc := 108) dX12_addsBlock_108 rfl ?_
  refine G_dupR (pc := 109) dX12_addsBlock_109 ?_
  refine G_getI (j := 58) (pc := 110) dX12_addsBlock_110 rfl z_CLX12 (by decide) z_wX12_359 (by decide) (fun x36 => ?_)
  refine G_iconst (pc := 113) dX12_addsBlock_113 ?_
  refine G_iadd (pc := 114) dX12_addsBlock_114 (fun x37 => ?_)
  refine G_putI (j := 58) (pc := 115) dX12_addsBlock_115 rfl z_CLX12 (by decide) z_wX12_359 rfl (by decide) (by decide) (fun s38 => ?_)
  refine G_aload_n (x := a0) (pc := 118) dX12_addsBlock_118 rfl ?_
  refine G_getR (j := 55) (pc := 119) dX12_addsBlock_119 rfl z_CLX12 (by decide) z_wX12_140 (by decide) (fun x39 => ?_)
  refine G_iload_n (x := a2) (pc := 122) dX12_addsBlock_122 rfl ?_
  refine G_dup2 (pc := 123) dX12_addsBlock_123 ?_
  refine G_iald (pc := 124) dX12_addsBlock_124 (fun x40 => ?_)
  refine G_iconst (pc := 125) dX12_addsBlock_125 ?_
  refine G_iadd (pc := 126) dX12_addsBlock_126 (fun x41 => ?_)
  refine G_iast (pc := 127) dX12_addsBlock_127 (fun s42 => ?_)
  exact G_vret (pc := 128) dX12_addsBlock_128
def fX12_laysLine_J69 (fu : Nat) (s : z_M) (a0 : Int) (a1 : Int) (a2 : Int) (a3 : Int) (a4 : Int) (a6 : Int) (a7 : Int) (a8 : Int) (t0 : Int) (t1 : Int) (r : z_M → Int → Int → z_O) (k : z_M → Int → z_O) : z_O := z_let (z_w (t0 + t1)) (fun x14 => z_let (z_w (a8 + 1)) (fun x15 => r s x14 x15))
theorem gX12_laysLine_J69 {l : Launch} {K : z_K} (hst : l.stackTraces = false) (fu : Nat) (s : z_M) (a0 : Int) (a1 : Int) (a2 : Int) (a3 : Int) (a4 : Int) (a6 : Int) (a7 : Int) (a8 : Int) (t0 : Int) (t1 : Int) (r : z_M → Int → Int → z_O) (k : z_M → Int → z_O) (hr : ∀ (s : z_M) (a5 : Int) (a8 : Int), G l K mX12_laysLine 8 177 0 0 46 [vR a0, vI a1, vI a2, vI a3, vI a4, vI a5, vI a6, vI a7, vI a8, vU, vU, vU, vU] [] s (r s a5 a8)) (hk : ∀ (s : z_M) (a5 : Int), G l K mX12_laysLine 8 177 0 0 78 [vR a0, vI a1, vI a2, vI a3, vI a4, vI a5, vI a6, vI a7, vU, vU, vU, vU, vU] [] s (k s a5)) : G l K mX12_laysLine 8 177 0 0 69 [vR a0, vI a1, vI a2, vI a3, vI a4, vU, vI a6, vI a7, vI a8, vU, vU, vU, vU] [vI t1, vI t0] s (fX12_laysLine_J69 fu s a0 a1 a2 a3 a4 a6 a7 a8 t0 t1 r k) := by
  unfold fX12_laysLine_J69
  refine G_iadd (pc := 69) dX12_laysLine_69 (fun x14 => ?_)
  refine G_istore (lv' := [vR a0, vI a1, vI a2, vI a3, vI a4, vI x14, vI a6, vI a7, vI a8, vU, vU, vU, vU]) (pc := 70) dX12_laysLine_70 rfl ?_
  refine G_iinc (x := a8) (g := fun x15 => [vR a0, vI a1, vI a2, vI a3, vI a4, vI x14, vI a6, vI a7, vI x15, vU, vU, vU, vU]) (pc := 72) dX12_laysLine_72 rfl (fun _ => rfl) (fun x15 => ?_)
  refine G_goto (tgt := 46) (pc := 75) dX12_laysLine_75 ?_
  exact hr s x14 x15
def fX12_laysLine_L46 (fu : Nat) (a0 : Int) (a1 : Int) (a2 : Int) (a3 : Int) (a4 : Int) (a6 : Int) (a7 : Int) : Nat → z_M → Int → Int → (z_M → Int → z_O) → z_O
  | 0, _, _, _, _ => none
  | F + 1, s, a5, a8, k => if (a3 : Int) < a8 then (k s a5) else (if z_ob a0 12 then z_bI (fX12_isGap fu s a0 a8 a3) (fun x13 s12 => if (x13 : Int) = 0 then (fX12_laysLine_J69 fu s12 a0 a1 a2 a3 a4 a6 a7 a8 a5 0 (fun w v5 v8 => fX12_laysLine_L46 fu a0 a1 a2 a3 a4 a6 a7 F w v5 v8 k) k) else (fX12_laysLine_J69 fu s12 a0 a1 a2 a3 a4 a6 a7 a8 a5 1 (fun w v5 v8 => fX12_laysLine_L46 fu a0 a1 a2 a3 a4 a6 a7 F w v5 v8 k) k)) else none)
theorem gX12_laysLine_L46 {l : Launch} {K : z_K} (hst : l.stackTraces = false) (fu : Nat) (a0 : Int) (a1 : Int) (a2 : Int) (a3 : Int) (a4 : Int) (a6 : Int) (a7 : Int) (k : z_M → Int → z_O) (hk : ∀ (s : z_M) (a5 : Int), G l K mX12_laysLine 8 177 0 0 78 [vR a0, vI a1, vI a2, vI a3, vI a4, vI a5, vI a6, vI a7, vU, vU, vU, vU, vU] [] s (k s a5)) : ∀ (F : Nat) (s : z_M) (a5 : Int) (a8 : Int), G l K mX12_laysLine 8 177 0 0 46 [vR a0, vI a1, vI a2, vI a3, vI a4, vI a5, vI a6, vI a7, vI a8, vU, vU, vU, vU] [] s (fX12_laysLine_L46 fu a0 a1 a2 a3 a4 a6 a7 F s a5 a8 k) := by
  intro F
  induction F with
  | zero => exact fun s a5 a8 h => absurd rfl h
  | succ F ih =>
    intro s a5 a8
    rw [fX12_laysLine_L46]
    refine G_iload (x := a8) (pc := 46) dX12_laysLine_46 rfl ?_
    refine G_iload_n (x := a3) (pc := 48) dX12_laysLine_48 rfl ?_
    refine G_icmp_gt (tgt := 78) (pc := 49) dX12_laysLine_49 ?_ ?_
    · refine G_fg (lv2 := [vR a0, vI a1, vI a2, vI a3, vI a4, vI a5, vI a6, vI a7, vU, vU, vU, vU, vU]) ⟨Or.inr rfl, Or.inr rfl, Or.inr rfl, Or.inr rfl, Or.inr rfl, Or.inr rfl, Or.inr rfl, Or.inr rfl, Or.inl rfl, Or.inl rfl, Or.inl rfl, Or.inl rfl, Or.inl rfl, trivial⟩ ?_
      exact hk s a5
    · refine G_iload (x := a5) (pc := 52) dX12_laysLine_52 rfl ?_
      refine G_aload_n (x := a0) (pc := 54) dX12_laysLine_54 rfl ?_
      refine G_iload (x := a8) (pc := 55) dX12_laysLine_55 rfl ?_
      refine G_iload_n (x := a3) (pc := 57) dX12_laysLine_57 rfl ?_
      refine G_callVI (as := [vI a8, vI a3]) (st := [vI a5]) (c := 12) (bc2 := 0) (bs2 := 0) (pc := 58) dX12_laysLine_58 z_mX12_isGap z_vX12_isGap z_wX12_352 (gX12_isGap hst fu s a0 a8 a3) rfl rfl (by decide) rfl rfl ⟨by decide, by decide, by decide, by decide, Nat.le_of_ble_eq_true rfl⟩ rfl (fun x13 s12 => ?_)
      refine G_if_eq (tgt := 68) (pc := 61) dX12_laysLine_61 ?_ ?_
      · refine G_iconst (pc := 68) dX12_laysLine_68 ?_
        refine G_fg (lv2 := [vR a0, vI a1, vI a2, vI a3, vI a4, vU, vI a6, vI a7, vI a8, vU, vU, vU, vU]) ⟨Or.inr rfl, Or.inr rfl, Or.inr rfl, Or.inr rfl, Or.inr rfl, Or.inl rfl, Or.inr rfl, Or.inr rfl, Or.inr rfl, Or.inl rfl, Or.inl rfl, Or.inl rfl, Or.inl rfl, trivial⟩ ?_
        exact gX12_laysLine_J69 hst fu s12 a0 a1 a2 a3 a4 a6 a7 a8 a5 0 _ _ (fun w v5 v8 => ih w v5 v8) hk
      · refine G_iconst (pc := 64) dX12_laysLine_64 ?_
        refine G_goto (tgt := 69) (pc := 65) dX12_laysLine_65 ?_
        refine G_fg (lv2 := [vR a0, vI a1, vI a2, vI a3, vI a4, vU, vI a6, vI a7, vI a8, vU, vU, vU, vU]) ⟨Or.inr rfl, Or.inr rfl, Or.inr rfl, Or.inr rfl, Or.inr rfl, Or.inl rfl, Or.inr rfl, Or.inr rfl, Or.inr rfl, Or.inl rfl, Or.inl rfl, Or.inl rfl, Or.inl rfl, trivial⟩ ?_
        exact gX12_laysLine_J69 hst fu s12 a0 a1 a2 a3 a4 a6 a7 a8 a5 1 _ _ (fun w v5 v8 => ih w v5 v8) hk
def fX12_laysLine_J328 (fu : Nat) (s : z_M) (a0 : Int) (a1 : Int) (a3 : Int) (a5 : Int) (a6 : Int) (a7 : Int) (a8 : Int) (a9 : Int) (a10 : Int) (a12 : Int) (t0 : Int) (t1 : Int) (r : z_M → Int → Int → z_O) (k : z_M → z_O) : z_O := z_let (z_w (t0 + t1)) (fun x67 => z_let (z_w (a12 + 1)) (fun x68 => r s x67 x68))
theorem gX12_laysLine_J328 {l : Launch} {K : z_K} (hst : l.stackTraces = false) (fu : Nat) (s : z_M) (a0 : Int) (a1 : Int) (a3 : Int) (a5 : Int) (a6 : Int) (a7 : Int) (a8 : Int) (a9 : Int) (a10 : Int) (a12 : Int) (t0 : Int) (t1 : Int) (r : z_M → Int → Int → z_O) (k : z_M → z_O) (hr : ∀ (s : z_M) (a11 : Int) (a12 : Int), G l K mX12_laysLine 8 177 0 0 278 [vR a0, vI a1, vU, vI a3, vU, vI a5, vI a6, vI a7, vI a8, vI a9, vI a10, vI a11, vI a12] [] s (r s a11 a12)) (hk : ∀ (s : z_M), G l K mX12_laysLine 8 177 0 0 337 [vR a0, vI a1, vU, vI a3, vU, vI a5, vI a6, vI a7, vI a8, vI a9, vI a10, vU, vU] [] s (k s)) : G l K mX12_laysLine 8 177 0 0 328 [vR a0, vI a1, vU, vI a3, vU, vI a5, vI a6, vI a7, vI a8, vI a9, vI a10, vU, vI a12] [vI t1, vI t0] s (fX12_laysLine_J328 fu s a0 a1 a3 a5 a6 a7 a8 a9 a10 a12 t0 t1 r k) := by
  unfold fX12_laysLine_J328
  refine G_iadd (pc := 328) dX12_laysLine_328 (fun x67 => ?_)
  refine G_istore (lv' := [vR a0, vI a1, vU, vI a3, vU, vI a5, vI a6, vI a7, vI a8, vI a9, vI a10, vI x67, vI a12]) (pc := 329) dX12_laysLine_329 rfl ?_
  refine G_iinc (x := a12) (g := fun x68 => [vR a0, vI a1, vU, vI a3, vU, vI a5, vI a6, vI a7, vI a8, vI a9, vI a10, vI x67, vI x68]) (pc := 331) dX12_laysLine_331 rfl (fun _ => rfl) (fun x68 => ?_)
  refine G_goto (tgt := 278) (pc := 334) dX12_laysLine_334 ?_
  exact hr s x67 x68
def fX12_laysLine_L278 (fu : Nat) (a0 : Int) (a1 : Int) (a3 : Int) (a5 : Int) (a6 : Int) (a7 : Int) (a8 : Int) (a9 : Int) (a10 : Int) : Nat → z_M → Int → Int → (z_M → z_O) → z_O
  | 0, _, _, _, _ => none
  | F + 1, s, a11, a12, k => if z_ob a0 12 then z_let (z_gr a0 22) (fun x56 => if z_ix x56 100 a10 then z_let (s x56 a10) (fun x57 => if z_ob a0 12 then z_let (z_gr a0 23) (fun x58 => if z_ix x58 100 a10 then z_let (s x58 a10) (fun x59 => z_let (z_w (x57 + x59)) (fun x60 => if (x60 : Int) ≤ a12 then (k s) else (if z_ob a0 12 then z_let (z_gr a0 50) (fun x61 => if z_ix x61 100 a12 then z_let (z_up s x61 a12 a11) (fun s62 => if z_ob a0 12 then z_bI (fX12_isAcross fu s62 a0 a10) (fun x64 s63 => if (x64 : Int) = 0 then (if z_ob a0 12 then z_bI (fX12_signLong fu s63 a0 a12) (fun x66 s65 => fX12_laysLine_J328 fu s65 a0 a1 a3 a5 a6 a7 a8 a9 a10 a12 a11 x66 (fun w v11 v12 => fX12_laysLine_L278 fu a0 a1 a3 a5 a6 a7 a8 a9 a10 F w v11 v12 k) k) else none) else (fX12_laysLine_J328 fu s63 a0 a1 a3 a5 a6 a7 a8 a9 a10 a12 a11 0 (fun w v11 v12 => fX12_laysLine_L278 fu a0 a1 a3 a5 a6 a7 a8 a9 a10 F w v11 v12 k) k)) else none) else none) else none))) else none) else none) else none) else none
theorem gX12_laysLine_L278 {l : Launch} {K : z_K} (hst : l.stackTraces = false) (fu : Nat) (a0 : Int) (a1 : Int) (a3 : Int) (a5 : Int) (a6 : Int) (a7 : Int) (a8 : Int) (a9 : Int) (a10 : Int) (k : z_M → z_O) (hk : ∀ (s : z_M), G l K mX12_laysLine 8 177 0 0 337 [vR a0, vI a1, vU, vI a3, vU, vI a5, vI a6, vI a7, vI a8, vI a9, vI a10, vU, vU] [] s (k s)) : ∀ (F : Nat) (s : z_M) (a11 : Int) (a12 : Int), G l K mX12_laysLine 8 177 0 0 278 [vR a0, vI a1, vU, vI a3, vU, vI a5, vI a6, vI a7, vI a8, vI a9, vI a10, vI a11, vI a12] [] s (fX12_laysLine_L278 fu a0 a1 a3 a5 a6 a7 a8 a9 a10 F s a11 a12 k) := by
  intro F
  induction F with
  | zero => exact fun s a11 a12 h => absurd rfl h
  | succ F ih =>
    intro s a11 a12
    rw [fX12_laysLine_L278]
    refine G_iload (x := a12) (pc := 278) dX12_laysLine_278 rfl ?_
    refine G_aload_n (x := a0) (pc := 280) dX12_laysLine_280 rfl ?_
    refine G_getR (j := 22) (pc := 281) dX12_laysLine_281 rfl z_CLX12 (by decide) z_wX12_57 (by decide) (fun x56 => ?_)
    refine G_iload (x := a10) (pc := 284) dX12_laysLine_284 rfl ?_
    refine G_iald (pc := 286) dX12_laysLine_286 (fun x57 => ?_)
    refine G_aload_n (x := a0) (pc := 287) dX12_laysLine_287 rfl ?_
    refine G_getR (j := 23) (pc := 288) dX12_laysLine_288 rfl z_CLX12 (by decide) z_wX12_60 (by decide) (fun x58 => ?_)
    refine G_iload (x := a10) (pc := 291) dX12_laysLine_291 rfl ?_
    refine G_iald (pc := 293) dX12_laysLine_293 (fun x59 => ?_)
    refine G_iadd (pc := 294) dX12_laysLine_294 (fun x60 => ?_)
    refine G_icmp_ge (tgt := 337) (pc := 295) dX12_laysLine_295 ?_ ?_
    · refine G_fg (lv2 := [vR a0, vI a1, vU, vI a3, vU, vI a5, vI a6, vI a7, vI a8, vI a9, vI a10, vU, vU]) ⟨Or.inr rfl, Or.inr rfl, Or.inl rfl, Or.inr rfl, Or.inl rfl, Or.inr rfl, Or.inr rfl, Or.inr rfl, Or.inr rfl, Or.inr rfl, Or.inr rfl, Or.inl rfl, Or.inl rfl, trivial⟩ ?_
      exact hk s
    · refine G_aload_n (x := a0) (pc := 298) dX12_laysLine_298 rfl ?_
      refine G_getR (j := 50) (pc := 299) dX12_laysLine_299 rfl z_CLX12 (by decide) z_wX12_125 (by decide) (fun x61 => ?_)
      refine G_iload (x := a12) (pc := 302) dX12_laysLine_302 rfl ?_
      refine G_iload (x := a11) (pc := 304) dX12_laysLine_304 rfl ?_
      refine G_iast (pc := 306) dX12_laysLine_306 (fun s62 => ?_)
      refine G_iload (x := a11) (pc := 307) dX12_laysLine_307 rfl ?_
      refine G_aload_n (x := a0) (pc := 309) dX12_laysLine_309 rfl ?_
      refine G_iload (x := a10) (pc := 310) dX12_laysLine_310 rfl ?_
      refine G_callVI (as := [vI a10]) (st := [vI a11]) (c := 12) (bc2 := 0) (bs2 := 0) (pc := 312) dX12_laysLine_312 z_mX12_isAcross z_vX12_isAcross z_wX12_273 (gX12_isAcross hst fu s62 a0 a10) rfl rfl (by decide) rfl rfl ⟨by decide, by decide, by decide, by decide, Nat.le_of_ble_eq_true rfl⟩ rfl (fun x64 s63 => ?_)
      refine G_if_eq (tgt := 322) (pc := 315) dX12_laysLine_315 ?_ ?_
      · refine G_aload_n (x := a0) (pc := 322) dX12_laysLine_322 rfl ?_
        refine G_iload (x := a12) (pc := 323) dX12_laysLine_323 rfl ?_
        refine G_callVI (as := [vI a12]) (st := [vI a11]) (c := 12) (bc2 := 0) (bs2 := 0) (pc := 325) dX12_laysLine_325 z_mX12_signLong z_vX12_signLong z_wX12_276 (gX12_signLong hst fu s63 a0 a12) rfl rfl (by decide) rfl rfl ⟨by decide, by decide, by decide, by decide, Nat.le_of_ble_eq_true rfl⟩ rfl (fun x66 s65 => ?_)
        refine G_fg (lv2 := [vR a0, vI a1, vU, vI a3, vU, vI a5, vI a6, vI a7, vI a8, vI a9, vI a10, vU, vI a12]) ⟨Or.inr rfl, Or.inr rfl, Or.inl rfl, Or.inr rfl, Or.inl rfl, Or.inr rfl, Or.inr rfl, Or.inr rfl, Or.inr rfl, Or.inr rfl, Or.inr rfl, Or.inl rfl, Or.inr rfl, trivial⟩ ?_
        exact gX12_laysLine_J328 hst fu s65 a0 a1 a3 a5 a6 a7 a8 a9 a10 a12 a11 x66 _ _ (fun w v11 v12 => ih w v11 v12) hk
      · refine G_iconst (pc := 318) dX12_laysLine_318 ?_
        refine G_goto (tgt := 328) (pc := 319) dX12_laysLine_319 ?_
        refine G_fg (lv2 := [vR a0, vI a1, vU, vI a3, vU, vI a5, vI a6, vI a7, vI a8, vI a9, vI a10, vU, vI a12]) ⟨Or.inr rfl, Or.inr rfl, Or.inl rfl, Or.inr rfl, Or.inl rfl, Or.inr rfl, Or.inr rfl, Or.inr rfl, Or.inr rfl, Or.inr rfl, Or.inr rfl, Or.inl rfl, Or.inr rfl, trivial⟩ ?_
        exact gX12_laysLine_J328 hst fu s63 a0 a1 a3 a5 a6 a7 a8 a9 a10 a12 a11 0 _ _ (fun w v11 v12 => ih w v11 v12) hk
def fX12_laysLine_J436 (fu : Nat) (s : z_M) (a0 : Int) (a1 : Int) (a3 : Int) (a5 : Int) (a6 : Int) (a7 : Int) (a8 : Int) (a9 : Int) (a10 : Int) (r : z_M → Int → Int → Int → z_O) (k : z_M → z_O) : z_O := z_let (z_w (a10 + 1)) (fun x88 => r s a7 a9 x88)
theorem gX12_laysLine_J436 {l : Launch} {K : z_K} (hst : l.stackTraces = false) (fu : Nat) (s : z_M) (a0 : Int) (a1 : Int) (a3 : Int) (a5 : Int) (a6 : Int) (a7 : Int) (a8 : Int) (a9 : Int) (a10 : Int) (r : z_M → Int → Int → Int → z_O) (k : z_M → z_O) (hr : ∀ (s : z_M) (a7 : Int) (a9 : Int) (a10 : Int), G l K mX12_laysLine 8 177 0 0 169 [vR a0, vI a1, vU, vI a3, vU, vI a5, vI a6, vI a7, vI a8, vI a9, vI a10, vU, vU] [] s (r s a7 a9 a10)) (hk : ∀ (s : z_M), G l K mX12_laysLine 8 177 0 0 442 [vU, vU, vU, vU, vU, vU, vU, vU, vU, vU, vU, vU, vU] [] s (k s)) : G l K mX12_laysLine 8 177 0 0 436 [vR a0, vI a1, vU, vI a3, vU, vI a5, vI a6, vI a7, vI a8, vI a9, vI a10, vU, vU] [] s (fX12_laysLine_J436 fu s a0 a1 a3 a5 a6 a7 a8 a9 a10 r k) := by
  unfold fX12_laysLine_J436
  refine G_iinc (x := a10) (g := fun x88 => [vR a0, vI a1, vU, vI a3, vU, vI a5, vI a6, vI a7, vI a8, vI a9, vI x88, vU, vU]) (pc := 436) dX12_laysLine_436 rfl (fun _ => rfl) (fun x88 => ?_)
  refine G_goto (tgt := 169) (pc := 439) dX12_laysLine_439 ?_
  exact hr s a7 a9 x88
def fX12_laysLine_J429 (fu : Nat) (s : z_M) (a0 : Int) (a1 : Int) (a3 : Int) (a5 : Int) (a6 : Int) (a8 : Int) (a9 : Int) (a10 : Int) (t0 : Int) (t1 : Int) (t2 : Int) (r : z_M → Int → Int → Int → z_O) (k : z_M → z_O) : z_O := z_let (z_w (t1 + t2)) (fun x93 => z_let (z_w (t0 + x93)) (fun x94 => z_let (z_w (a9 + 1)) (fun x95 => fX12_laysLine_J436 fu s a0 a1 a3 a5 a6 x94 a8 x95 a10 (fun w v7 v9 v10 => r w v7 v9 v10) k)))
theorem gX12_laysLine_J429 {l : Launch} {K : z_K} (hst : l.stackTraces = false) (fu : Nat) (s : z_M) (a0 : Int) (a1 : Int) (a3 : Int) (a5 : Int) (a6 : Int) (a8 : Int) (a9 : Int) (a10 : Int) (t0 : Int) (t1 : Int) (t2 : Int) (r : z_M → Int → Int → Int → z_O) (k : z_M → z_O) (hr : ∀ (s : z_M) (a7 : Int) (a9 : Int) (a10 : Int), G l K mX12_laysLine 8 177 0 0 169 [vR a0, vI a1, vU, vI a3, vU, vI a5, vI a6, vI a7, vI a8, vI a9, vI a10, vU, vU] [] s (r s a7 a9 a10)) (hk : ∀ (s : z_M), G l K mX12_laysLine 8 177 0 0 442 [vU, vU, vU, vU, vU, vU, vU, vU, vU, vU, vU, vU, vU] [] s (k s)) : G l K mX12_laysLine 8 177 0 0 429 [vR a0, vI a1, vU, vI a3, vU, vI a5, vI a6, vU, vI a8, vI a9, vI a10, vU, vU] [vI t2, vI t1, vI t0] s (fX12_laysLine_J429 fu s a0 a1 a3 a5 a6 a8 a9 a10 t0 t1 t2 r k) := by
  unfold fX12_laysLine_J429
  refine G_iadd (pc := 429) dX12_laysLine_429 (fun x93 => ?_)
  refine G_iadd (pc := 430) dX12_laysLine_430 (fun x94 => ?_)
  refine G_istore (lv' := [vR a0, vI a1, vU, vI a3, vU, vI a5, vI a6, vI x94, vI a8, vI a9, vI a10, vU, vU]) (pc := 431) dX12_laysLine_431 rfl ?_
  refine G_iinc (x := a9) (g := fun x95 => [vR a0, vI a1, vU, vI a3, vU, vI a5, vI a6, vI x94, vI a8, vI x95, vI a10, vU, vU]) (pc := 433) dX12_laysLine_433 rfl (fun _ => rfl) (fun x95 => ?_)
  exact gX12_laysLine_J436 hst fu s a0 a1 a3 a5 a6 x94 a8 x95 a10 _ _ (fun w v7 v9 v10 => hr w v7 v9 v10) hk
def fX12_laysLine_J192 (fu : Nat) (s : z_M) (a0 : Int) (a1 : Int) (a3 : Int) (a5 : Int) (a6 : Int) (a7 : Int) (a8 : Int) (a9 : Int) (a10 : Int) (r : z_M → Int → Int → Int → z_O) (k : z_M → z_O) : z_O := if z_ob a0 12 then z_let (z_gr a0 28) (fun x33 => if z_ix x33 100 a10 then z_let (s x33 a10) (fun x34 => if z_ob a0 12 then z_let (z_gr a0 26) (fun x35 => if z_ix x35 100 a10 then z_let (s x35 a10) (fun x36 => z_let (z_w (x34 + x36)) (fun x37 => z_let (z_w (a7 + x37)) (fun x38 => if z_ob a0 12 then z_let (z_gr a0 48) (fun x39 => if z_ix x39 100 a10 then z_let (z_up s x39 a10 a1) (fun s40 => if z_ob a0 12 then z_let (z_gr a0 49) (fun x41 => if z_ix x41 100 a10 then z_let (z_up s40 x41 a10 x38) (fun s42 => if z_ob a0 12 then z_let (z_gr a0 51) (fun x43 => if z_ob a0 12 then z_let (z_gr a0 26) (fun x44 => if z_ix x44 100 a10 then z_let (s42 x44 a10) (fun x45 => if z_ob a0 12 then z_let (z_gr a0 27) (fun x46 => if z_ix x46 100 a10 then z_let (s42 x46 a10) (fun x47 => z_let (z_w (x45 + x47)) (fun x48 => if z_ix x43 100 a10 then z_let (z_up s42 x43 a10 x48) (fun s49 => if z_ob a0 12 then z_let (z_gr a0 52) (fun x50 => if z_ob a0 12 then z_let (z_gr a0 25) (fun x51 => if z_ix x51 100 a10 then z_let (s49 x51 a10) (fun x52 => if z_ix x50 100 a10 then z_let (z_up s49 x50 a10 x52) (fun s53 => if z_ob a0 12 then z_let (z_gr a0 22) (fun x54 => if z_ix x54 100 a10 then z_let (s53 x54 a10) (fun x55 => fX12_laysLine_L278 fu a0 a1 a3 a5 a6 x38 a8 a9 a10 fu s53 x38 x55 (fun s69 => if z_ob a0 12 then z_let (z_gr a0 56) (fun x70 => if z_ix x70 100 a1 then z_let (s69 x70 a1) (fun x71 => if z_ob a0 12 then z_let (z_gr a0 28) (fun x72 => if z_ix x72 100 a10 then z_let (s69 x72 a10) (fun x73 => if z_ob a0 12 then z_let (z_gr a0 29) (fun x74 => if z_ix x74 100 a10 then z_let (s69 x74 a10) (fun x75 => z_let (z_w (x73 + x75)) (fun x76 => z_let (z_w (x71 + x76)) (fun x77 => if z_ix x70 100 a1 then z_let (z_up s69 x70 a1 x77) (fun s78 => if z_ob a0 12 then z_let (z_gr a0 25) (fun x79 => if z_ix x79 100 a10 then z_let (s78 x79 a10) (fun x80 => if z_ob a0 12 then z_let (z_gr a0 27) (fun x81 => if z_ix x81 100 a10 then z_let (s78 x81 a10) (fun x82 => z_let (z_w (x80 + x82)) (fun x83 => if z_ob a0 12 then z_let (z_gr a0 29) (fun x84 => if z_ix x84 100 a10 then z_let (s78 x84 a10) (fun x85 => z_let (z_w (x83 + x85)) (fun x86 => z_let (z_w (x38 + x86)) (fun x87 => if (a8 : Int) = 0 then (fX12_laysLine_J436 fu s78 a0 a1 a3 a5 a6 x87 a8 a9 a10 (fun w v7 v9 v10 => r w v7 v9 v10) k) else (if z_ob a0 12 then z_bI (fX12_isGap fu s78 a0 a10 a3) (fun x90 s89 => if (x90 : Int) ≠ 0 then (if a5 ≠ 0 then z_let (z_w (Int.tdiv a6 a5)) (fun x91 => if a5 ≠ 0 then z_let (Int.tmod a6 a5) (fun x92 => if (x92 : Int) ≤ a9 then (fX12_laysLine_J429 fu s89 a0 a1 a3 a5 a6 a8 a9 a10 x87 x91 0 (fun w v7 v9 v10 => r w v7 v9 v10) k) else (fX12_laysLine_J429 fu s89 a0 a1 a3 a5 a6 a8 a9 a10 x87 x91 1 (fun w v7 v9 v10 => r w v7 v9 v10) k)) else none) else none) else (fX12_laysLine_J436 fu s89 a0 a1 a3 a5 a6 x87 a8 a9 a10 (fun w v7 v9 v10 => r w v7 v9 v10) k)) else none)))) else none) else none)) else none) else none) else none) else none) else none))) else none) else none) else none) else none) else none) else none)) else none) else none) else none) else none) else none) else none) else none)) else none) else none) else none) else none) else none) else none) else none) else none) else none))) else none) else none) else none) else none
theorem gX12_laysLine_J192 {l : Launch} {K : z_K} (hst : l.stackTraces = false) (fu : Nat) (s : z_M) (a0 : Int) (a1 : Int) (a3 : Int) (a5 : Int) (a6 : Int) (a7 : Int) (a8 : Int) (a9 : Int) (a10 : Int) (r : z_M → Int → Int → Int → z_O) (k : z_M → z_O) (hr : ∀ (s : z_M) (a7 : Int) (a9 : Int) (a10 : Int), G l K mX12_laysLine 8 177 0 0 169 [vR a0, vI a1, vU, vI a3, vU, vI a5, vI a6, vI a7, vI a8, vI a9, vI a10, vU, vU] [] s (r s a7 a9 a10)) (hk : ∀ (s : z_M), G l K mX12_laysLine 8 177 0 0 442 [vU, vU, vU, vU, vU, vU, vU, vU, vU, vU, vU, vU, vU] [] s (k s)) : G l K mX12_laysLine 8 177 0 0 192 [vR a0, vI a1, vU, vI a3, vU, vI a5, vI a6, vI a7, vI a8, vI a9, vI a10, vU, vU] [] s (fX12_laysLine_J192 fu s a0 a1 a3 a5 a6 a7 a8 a9 a10 r k) := by
  unfold fX12_laysLine_J192
  refine G_iload (x := a7) (pc := 192) dX12_laysLine_192 rfl ?_
  refine G_aload_n (x := a0) (pc := 194) dX12_laysLine_194 rfl ?_
  refine G_getR (j := 28) (pc := 195) dX12_laysLine_195 rfl z_CLX12 (by decide) z_wX12_75 (by decide) (fun x33 => ?_)
  refine G_iload (x := a10) (pc := 198) dX12_laysLine_198 rfl ?_
  refine G_iald (pc := 200) dX12_laysLine_200 (fun x34 => ?_)
  refine G_aload_n (x := a0) (pc := 201) dX12_laysLine_201 rfl ?_
  refine G_getR (j := 26) (pc := 202) dX12_laysLine_202 rfl z_CLX12 (by decide) z_wX12_69 (by decide) (fun x35 => ?_)
  refine G_iload (x := a10) (pc := 205) dX12_laysLine_205 rfl ?_
  refine G_iald (pc := 207) dX12_laysLine_207 (fun x36 => ?_)
  refine G_iadd (pc := 208) dX12_laysLine_208 (fun x37 => ?_)
  refine G_iadd (pc := 209) dX12_laysLine_209 (fun x38 => ?_)
  refine G_istore (lv' := [vR a0, vI a1, vU, vI a3, vU, vI a5, vI a6, vI x38, vI a8, vI a9, vI a10, vU, vU]) (pc := 210) dX12_laysLine_210 rfl ?_
  refine G_aload_n (x := a0) (pc := 212) dX12_laysLine_212 rfl ?_
  refine G_getR (j := 48) (pc := 213) dX12_laysLine_213 rfl z_CLX12 (by decide) z_wX12_119 (by decide) (fun x39 => ?_)
  refine G_iload (x := a10) (pc := 216) dX12_laysLine_216 rfl ?_
  refine G_iload_n (x := a1) (pc := 218) dX12_laysLine_218 rfl ?_
  refine G_iast (pc := 219) dX12_laysLine_219 (fun s40 => ?_)
  refine G_aload_n (x := a0) (pc := 220) dX12_laysLine_220 rfl ?_
  refine G_getR (j := 49) (pc := 221) dX12_laysLine_221 rfl z_CLX12 (by decide) z_wX12_122 (by decide) (fun x41 => ?_)
  refine G_iload (x := a10) (pc := 224) dX12_laysLine_224 rfl ?_
  refine G_iload (x := x38) (pc := 226) dX12_laysLine_226 rfl ?_
  refine G_iast (pc := 228) dX12_laysLine_228 (fun s42 => ?_)
  refine G_aload_n (x := a0) (pc := 229) dX12_laysLine_229 rfl ?_
  refine G_getR (j := 51) (pc := 230) dX12_laysLine_230 rfl z_CLX12 (by decide) z_wX12_128 (by decide) (fun x43 => ?_)
  refine G_iload (x := a10) (pc := 233) dX12_laysLine_233 rfl ?_
  refine G_aload_n (x := a0) (pc := 235) dX12_laysLine_235 rfl ?_
  refine G_getR (j := 26) (pc := 236) dX12_laysLine_236 rfl z_CLX12 (by decide) z_wX12_69 (by decide) (fun x44 => ?_)
  refine G_iload (x := a10) (pc := 239) dX12_laysLine_239 rfl ?_
  refine G_iald (pc := 241) dX12_laysLine_241 (fun x45 => ?_)
  refine G_aload_n (x := a0) (pc := 242) dX12_laysLine_242 rfl ?_
  refine G_getR (j := 27) (pc := 243) dX12_laysLine_243 rfl z_CLX12 (by decide) z_wX12_72 (by decide) (fun x46 => ?_)
  refine G_iload (x := a10) (pc := 246) dX12_laysLine_246 rfl ?_
  refine G_iald (pc := 248) dX12_laysLine_248 (fun x47 => ?_)
  refine G_iadd (pc := 249) dX12_laysLine_249 (fun x48 => ?_)
  refine G_iast (pc := 250) dX12_laysLine_250 (fun s49 => ?_)
  refine G_aload_n (x := a0) (pc := 251) dX12_laysLine_251 rfl ?_
  refine G_getR (j := 52) (pc := 252) dX12_laysLine_252 rfl z_CLX12 (by decide) z_wX12_131 (by decide) (fun x50 => ?_)
  refine G_iload (x := a10) (pc := 255) dX12_laysLine_255 rfl ?_
  refine G_aload_n (x := a0) (pc := 257) dX12_laysLine_257 rfl ?_
  refine G_getR (j := 25) (pc := 258) dX12_laysLine_258 rfl z_CLX12 (by decide) z_wX12_66 (by decide) (fun x51 => ?_)
  refine G_iload (x := a10) (pc := 261) dX12_laysLine_261 rfl ?_
  refine G_iald (pc := 263) dX12_laysLine_263 (fun x52 => ?_)
  refine G_iast (pc := 264) dX12_laysLine_264 (fun s53 => ?_)
  refine G_iload (x := x38) (pc := 265) dX12_laysLine_265 rfl ?_
  refine G_istore (lv' := [vR a0, vI a1, vU, vI a3, vU, vI a5, vI a6, vI x38, vI a8, vI a9, vI a10, vI x38, vU]) (pc := 267) dX12_laysLine_267 rfl ?_
  refine G_aload_n (x := a0) (pc := 269) dX12_laysLine_269 rfl ?_
  refine G_getR (j := 22) (pc := 270) dX12_laysLine_270 rfl z_CLX12 (by decide) z_wX12_57 (by decide) (fun x54 => ?_)
  refine G_iload (x := a10) (pc := 273) dX12_laysLine_273 rfl ?_
  refine G_iald (pc := 275) dX12_laysLine_275 (fun x55 => ?_)
  refine G_istore (lv' := [vR a0, vI a1, vU, vI a3, vU, vI a5, vI a6, vI x38, vI a8, vI a9, vI a10, vI x38, vI x55]) (pc := 276) dX12_laysLine_276 rfl ?_
  refine gX12_laysLine_L278 hst fu a0 a1 a3 a5 a6 x38 a8 a9 a10 _ (fun s69 => ?_) fu s53 x38 x55
  refine G_aload_n (x := a0) (pc := 337) dX12_laysLine_337 rfl ?_
  refine G_getR (j := 56) (pc := 338) dX12_laysLine_338 rfl z_CLX12 (by decide) z_wX12_143 (by decide) (fun x70 => ?_)
  refine G_iload_n (x := a1) (pc := 341) dX12_laysLine_341 rfl ?_
  refine G_dup2 (pc := 342) dX12_laysLine_342 ?_
  refine G_iald (pc := 343) dX12_laysLine_343 (fun x71 => ?_)
  refine G_aload_n (x := a0) (pc := 344) dX12_laysLine_344 rfl ?_
  refine G_getR (j := 28) (pc := 345) dX12_laysLine_345 rfl z_CLX12 (by decide) z_wX12_75 (by decide) (fun x72 => ?_)
  refine G_iload (x := a10) (pc := 348) dX12_laysLine_348 rfl ?_
  refine G_iald (pc := 350) dX12_laysLine_350 (fun x73 => ?_)
  refine G_aload_n (x := a0) (pc := 351) dX12_laysLine_351 rfl ?_
  refine G_getR (j := 29) (pc := 352) dX12_laysLine_352 rfl z_CLX12 (by decide) z_wX12_78 (by decide) (fun x74 => ?_)
  refine G_iload (x := a10) (pc := 355) dX12_laysLine_355 rfl ?_
  refine G_iald (pc := 357) dX12_laysLine_357 (fun x75 => ?_)
  refine G_iadd (pc := 358) dX12_laysLine_358 (fun x76 => ?_)
  refine G_iadd (pc := 359) dX12_laysLine_359 (fun x77 => ?_)
  refine G_iast (pc := 360) dX12_laysLine_360 (fun s78 => ?_)
  refine G_iload (x := x38) (pc := 361) dX12_laysLine_361 rfl ?_
  refine G_aload_n (x := a0) (pc := 363) dX12_laysLine_363 rfl ?_
  refine G_getR (j := 25) (pc := 364) dX12_laysLine_364 rfl z_CLX12 (by decide) z_wX12_66 (by decide) (fun x79 => ?_)
  refine G_iload (x := a10) (pc := 367) dX12_laysLine_367 rfl ?_
  refine G_iald (pc := 369) dX12_laysLine_369 (fun x80 => ?_)
  refine G_aload_n (x := a0) (pc := 370) dX12_laysLine_370 rfl ?_
  refine G_getR (j := 27) (pc := 371) dX12_laysLine_371 rfl z_CLX12 (by decide) z_wX12_72 (by decide) (fun x81 => ?_)
  refine G_iload (x := a10) (pc := 374) dX12_laysLine_374 rfl ?_
  refine G_iald (pc := 376) dX12_laysLine_376 (fun x82 => ?_)
  refine G_iadd (pc := 377) dX12_laysLine_377 (fun x83 => ?_)
  refine G_aload_n (x := a0) (pc := 378) dX12_laysLine_378 rfl ?_
  refine G_getR (j := 29) (pc := 379) dX12_laysLine_379 rfl z_CLX12 (by decide) z_wX12_78 (by decide) (fun x84 => ?_)
  refine G_iload (x := a10) (pc := 382) dX12_laysLine_382 rfl ?_
  refine G_iald (pc := 384) dX12_laysLine_384 (fun x85 => ?_)
  refine G_iadd (pc := 385) dX12_laysLine_385 (fun x86 => ?_)
  refine G_iadd (pc := 386) dX12_laysLine_386 (fun x87 => ?_)
  refine G_istore (lv' := [vR a0, vI a1, vU, vI a3, vU, vI a5, vI a6, vI x87, vI a8, vI a9, vI a10, vU, vU]) (pc := 387) dX12_laysLine_387 rfl ?_
  refine G_iload (x := a8) (pc := 389) dX12_laysLine_389 rfl ?_
  refine G_if_eq (tgt := 436) (pc := 391) dX12_laysLine_391 ?_ ?_
  · exact gX12_laysLine_J436 hst fu s78 a0 a1 a3 a5 a6 x87 a8 a9 a10 _ _ (fun w v7 v9 v10 => hr w v7 v9 v10) hk
  · refine G_aload_n (x := a0) (pc := 394) dX12_laysLine_394 rfl ?_
    refine G_iload (x := a10) (pc := 395) dX12_laysLine_395 rfl ?_
    refine G_iload_n (x := a3) (pc := 397) dX12_laysLine_397 rfl ?_
    refine G_callVI (as := [vI a10, vI a3]) (st := []) (c := 12) (bc2 := 0) (bs2 := 0) (pc := 398) dX12_laysLine_398 z_mX12_isGap z_vX12_isGap z_wX12_352 (gX12_isGap hst fu s78 a0 a10 a3) rfl rfl (by decide) rfl rfl ⟨by decide, by decide, by decide, by decide, Nat.le_of_ble_eq_true rfl⟩ rfl (fun x90 s89 => ?_)
    refine G_if_ne (tgt := 407) (pc := 401) dX12_laysLine_401 ?_ ?_
    · refine G_iload (x := x87) (pc := 407) dX12_laysLine_407 rfl ?_
      refine G_iload (x := a6) (pc := 409) dX12_laysLine_409 rfl ?_
      refine G_iload (x := a5) (pc := 411) dX12_laysLine_411 rfl ?_
      refine G_idiv (pc := 413) dX12_laysLine_413 (fun x91 => ?_)
      refine G_iload (x := a9) (pc := 414) dX12_laysLine_414 rfl ?_
      refine G_iload (x := a6) (pc := 416) dX12_laysLine_416 rfl ?_
      refine G_iload (x := a5) (pc := 418) dX12_laysLine_418 rfl ?_
      refine G_irem (pc := 420) dX12_laysLine_420 (fun x92 => ?_)
      refine G_icmp_ge (tgt := 428) (pc := 421) dX12_laysLine_421 ?_ ?_
      · refine G_iconst (pc := 428) dX12_laysLine_428 ?_
        refine G_fg (lv2 := [vR a0, vI a1, vU, vI a3, vU, vI a5, vI a6, vU, vI a8, vI a9, vI a10, vU, vU]) ⟨Or.inr rfl, Or.inr rfl, Or.inl rfl, Or.inr rfl, Or.inl rfl, Or.inr rfl, Or.inr rfl, Or.inl rfl, Or.inr rfl, Or.inr rfl, Or.inr rfl, Or.inl rfl, Or.inl rfl, trivial⟩ ?_
        exact gX12_laysLine_J429 hst fu s89 a0 a1 a3 a5 a6 a8 a9 a10 x87 x91 0 _ _ (fun w v7 v9 v10 => hr w v7 v9 v10) hk
      · refine G_iconst (pc := 424) dX12_laysLine_424 ?_
        refine G_goto (tgt := 429) (pc := 425) dX12_laysLine_425 ?_
        refine G_fg (lv2 := [vR a0, vI a1, vU, vI a3, vU, vI a5, vI a6, vU, vI a8, vI a9, vI a10, vU, vU]) ⟨Or.inr rfl, Or.inr rfl, Or.inl rfl, Or.inr rfl, Or.inl rfl, Or.inr rfl, Or.inr rfl, Or.inl rfl, Or.inr rfl, Or.inr rfl, Or.inr rfl, Or.inl rfl, Or.inl rfl, trivial⟩ ?_
        exact gX12_laysLine_J429 hst fu s89 a0 a1 a3 a5 a6 a8 a9 a10 x87 x91 1 _ _ (fun w v7 v9 v10 => hr w v7 v9 v10) hk
    · refine G_goto (tgt := 436) (pc := 404) dX12_laysLine_404 ?_
      exact gX12_laysLine_J436 hst fu s89 a0 a1 a3 a5 a6 x87 a8 a9 a10 _ _ (fun w v7 v9 v10 => hr w v7 v9 v10) hk
def fX12_laysLine_L169 (fu : Nat) (a0 : Int) (a1 : Int) (a3 : Int) (a5 : Int) (a6 : Int) (a8 : Int) : Nat → z_M → Int → Int → Int → (z_M → z_O) → z_O
  | 0, _, _, _, _, _ => none
  | F + 1, s, a7, a9, a10, k => if (a3 : Int) < a10 then (k s) else (if z_ob a0 12 then z_let (z_gr a0 30) (fun x31 => if z_ix x31 100 a10 then z_let (s x31 a10) (fun x32 => if (x32 : Int) ≤ 0 then (fX12_laysLine_J192 fu s a0 a1 a3 a5 a6 a7 a8 a9 a10 (fun w v7 v9 v10 => fX12_laysLine_L169 fu a0 a1 a3 a5 a6 a8 F w v7 v9 v10 k) k) else (if z_ob a0 12 then z_bN (fX12_addsBlock fu s a0 a10 a1) (fun s96 => fX12_laysLine_J192 fu s96 a0 a1 a3 a5 a6 a7 a8 a9 a10 (fun w v7 v9 v10 => fX12_laysLine_L169 fu a0 a1 a3 a5 a6 a8 F w v7 v9 v10 k) k) else none)) else none) else none)
theorem gX12_laysLine_L169 {l : Launch} {K : z_K} (hst : l.stackTraces = false) (fu : Nat) (a0 : Int) (a1 : Int) (a3 : Int) (a5 : Int) (a6 : Int) (a8 : Int) (k : z_M → z_O) (hk : ∀ (s : z_M), G l K mX12_laysLine 8 177 0 0 442 [vU, vU, vU, vU, vU, vU, vU, vU, vU, vU, vU, vU, vU] [] s (k s)) : ∀ (F : Nat) (s : z_M) (a7 : Int) (a9 : Int) (a10 : Int), G l K mX12_laysLine 8 177 0 0 169 [vR a0, vI a1, vU, vI a3, vU, vI a5, vI a6, vI a7, vI a8, vI a9, vI a10, vU, vU] [] s (fX12_laysLine_L169 fu a0 a1 a3 a5 a6 a8 F s a7 a9 a10 k) := by
  intro F
  induction F with
  | zero => exact fun s a7 a9 a10 h => absurd rfl h
  | succ F ih =>
    intro s a7 a9 a10
    rw [fX12_laysLine_L169]
    refine G_iload (x := a10) (pc := 169) dX12_laysLine_169 rfl ?_
    refine G_iload_n (x := a3) (pc := 171) dX12_laysLine_171 rfl ?_
    refine G_icmp_gt (tgt := 442) (pc := 172) dX12_laysLine_172 ?_ ?_
    · refine G_fg (lv2 := [vU, vU, vU, vU, vU, vU, vU, vU, vU, vU, vU, vU, vU]) ⟨Or.inl rfl, Or.inl rfl, Or.inl rfl, Or.inl rfl, Or.inl rfl, Or.inl rfl, Or.inl rfl, Or.inl rfl, Or.inl rfl, Or.inl rfl, Or.inl rfl, Or.inl rfl, Or.inl rfl, trivial⟩ ?_
      exact hk s
    · refine G_aload_n (x := a0) (pc := 175) dX12_laysLine_175 rfl ?_
      refine G_getR (j := 30) (pc := 176) dX12_laysLine_176 rfl z_CLX12 (by decide) z_wX12_81 (by decide) (fun x31 => ?_)
      refine G_iload (x := a10) (pc := 179) dX12_laysLine_179 rfl ?_
      refine G_iald (pc := 181) dX12_laysLine_181 (fun x32 => ?_)
      refine G_if_le (tgt := 192) (pc := 182) dX12_laysLine_182 ?_ ?_
      · exact gX12_laysLine_J192 hst fu s a0 a1 a3 a5 a6 a7 a8 a9 a10 _ _ (fun w v7 v9 v10 => ih w v7 v9 v10) hk
      · refine G_aload_n (x := a0) (pc := 185) dX12_laysLine_185 rfl ?_
        refine G_iload (x := a10) (pc := 186) dX12_laysLine_186 rfl ?_
        refine G_iload_n (x := a1) (pc := 188) dX12_laysLine_188 rfl ?_
        refine G_callVN (as := [vI a10, vI a1]) (st := []) (c := 12) (bc2 := 0) (bs2 := 0) (pc := 189) dX12_laysLine_189 z_mX12_addsBlock z_vX12_addsBlock z_wX12_356 (gX12_addsBlock hst fu s a0 a10 a1) rfl rfl (by decide) rfl rfl ⟨by decide, by decide, by decide, by decide, Nat.le_of_ble_eq_true rfl⟩ rfl (fun s96 => ?_)
        exact gX12_laysLine_J192 hst fu s96 a0 a1 a3 a5 a6 a7 a8 a9 a10 _ _ (fun w v7 v9 v10 => ih w v7 v9 v10) hk
def fX12_laysLine_J161 (fu : Nat) (s : z_M) (a0 : Int) (a1 : Int) (a2 : Int) (a3 : Int) (a5 : Int) (a6 : Int) (a7 : Int) (t0 : Int) : z_O := fX12_laysLine_L169 fu a0 a1 a3 a5 a6 t0 fu s a7 0 a2 (fun s97 => some (vN, s97))
theorem gX12_laysLine_J161 {l : Launch} {K : z_K} (hst : l.stackTraces = false) (fu : Nat) (s : z_M) (a0 : Int) (a1 : Int) (a2 : Int) (a3 : Int) (a5 : Int) (a6 : Int) (a7 : Int) (t0 : Int) : G l K mX12_laysLine 8 177 0 0 161 [vR a0, vI a1, vI a2, vI a3, vU, vI a5, vI a6, vI a7, vU, vU, vU, vU, vU] [vI t0] s (fX12_laysLine_J161 fu s a0 a1 a2 a3 a5 a6 a7 t0) := by
  unfold fX12_laysLine_J161
  refine G_istore (lv' := [vR a0, vI a1, vI a2, vI a3, vU, vI a5, vI a6, vI a7, vI t0, vU, vU, vU, vU]) (pc := 161) dX12_laysLine_161 rfl ?_
  refine G_iconst (pc := 163) dX12_laysLine_163 ?_
  refine G_istore (lv' := [vR a0, vI a1, vI a2, vI a3, vU, vI a5, vI a6, vI a7, vI t0, vI 0, vU, vU, vU]) (pc := 164) dX12_laysLine_164 rfl ?_
  refine G_iload_n (x := a2) (pc := 166) dX12_laysLine_166 rfl ?_
  refine G_istore (lv' := [vR a0, vI a1, vI a2, vI a3, vU, vI a5, vI a6, vI a7, vI t0, vI 0, vI a2, vU, vU]) (pc := 167) dX12_laysLine_167 rfl ?_
  refine G_fg (lv2 := [vR a0, vI a1, vU, vI a3, vU, vI a5, vI a6, vI a7, vI t0, vI 0, vI a2, vU, vU]) ⟨Or.inr rfl, Or.inr rfl, Or.inl rfl, Or.inr rfl, Or.inl rfl, Or.inr rfl, Or.inr rfl, Or.inr rfl, Or.inr rfl, Or.inr rfl, Or.inr rfl, Or.inl rfl, Or.inl rfl, trivial⟩ ?_
  refine gX12_laysLine_L169 hst fu a0 a1 a3 a5 a6 t0 _ (fun s97 => ?_) fu s a7 0 a2
  exact G_vret (pc := 442) dX12_laysLine_442
def fX12_laysLine_J160 (fu : Nat) (s : z_M) (a0 : Int) (a1 : Int) (a2 : Int) (a3 : Int) (a5 : Int) (a6 : Int) (a7 : Int) : z_O := fX12_laysLine_J161 fu s a0 a1 a2 a3 a5 a6 a7 0
theorem gX12_laysLine_J160 {l : Launch} {K : z_K} (hst : l.stackTraces = false) (fu : Nat) (s : z_M) (a0 : Int) (a1 : Int) (a2 : Int) (a3 : Int) (a5 : Int) (a6 : Int) (a7 : Int) : G l K mX12_laysLine 8 177 0 0 160 [vR a0, vI a1, vI a2, vI a3, vU, vI a5, vI a6, vI a7, vU, vU, vU, vU, vU] [] s (fX12_laysLine_J160 fu s a0 a1 a2 a3 a5 a6 a7) := by
  unfold fX12_laysLine_J160
  refine G_iconst (pc := 160) dX12_laysLine_160 ?_
  exact gX12_laysLine_J161 hst fu s a0 a1 a2 a3 a5 a6 a7 0
def fX12_laysLine_J125 (fu : Nat) (s : z_M) (a0 : Int) (a1 : Int) (a2 : Int) (a3 : Int) (a5 : Int) (a6 : Int) (a7 : Int) (t0 : Int) (t1 : Int) (t2 : Int) : z_O := if z_ix t0 100 t1 then z_let (z_up s t0 t1 t2) (fun s28 => if z_ob a0 12 then z_let (z_gr a0 9) (fun x29 => if z_ix x29 100 4 then z_let (s28 x29 4) (fun x30 => if (x30 : Int) ≠ 1 then (fX12_laysLine_J160 fu s28 a0 a1 a2 a3 a5 a6 a7) else (if (a6 : Int) < 0 then (fX12_laysLine_J160 fu s28 a0 a1 a2 a3 a5 a6 a7) else (if z_ob a0 12 then z_let (s28 a0 20) (fun x98 => z_let (z_w (x98 - 1)) (fun x99 => if (x99 : Int) ≤ a3 then (fX12_laysLine_J160 fu s28 a0 a1 a2 a3 a5 a6 a7) else (if (a5 : Int) ≤ 0 then (fX12_laysLine_J160 fu s28 a0 a1 a2 a3 a5 a6 a7) else (fX12_laysLine_J161 fu s28 a0 a1 a2 a3 a5 a6 a7 1)))) else none))) else none) else none) else none
theorem gX12_laysLine_J125 {l : Launch} {K : z_K} (hst : l.stackTraces = false) (fu : Nat) (s : z_M) (a0 : Int) (a1 : Int) (a2 : Int) (a3 : Int) (a5 : Int) (a6 : Int) (a7 : Int) (t0 : Int) (t1 : Int) (t2 : Int) : G l K mX12_laysLine 8 177 0 0 125 [vR a0, vI a1, vI a2, vI a3, vU, vI a5, vI a6, vI a7, vU, vU, vU, vU, vU] [vI t2, vI t1, vR t0] s (fX12_laysLine_J125 fu s a0 a1 a2 a3 a5 a6 a7 t0 t1 t2) := by
  unfold fX12_laysLine_J125
  refine G_iast (pc := 125) dX12_laysLine_125 (fun s28 => ?_)
  refine G_aload_n (x := a0) (pc := 126) dX12_laysLine_126 rfl ?_
  refine G_getR (j := 9) (pc := 127) dX12_laysLine_127 rfl z_CLX12 (by decide) z_wX12_20 (by decide) (fun x29 => ?_)
  refine G_iconst (pc := 130) dX12_laysLine_130 ?_
  refine G_iald (pc := 131) dX12_laysLine_131 (fun x30 => ?_)
  refine G_iconst (pc := 132) dX12_laysLine_132 ?_
  refine G_icmp_ne (tgt := 160) (pc := 133) dX12_laysLine_133 ?_ ?_
  · exact gX12_laysLine_J160 hst fu s28 a0 a1 a2 a3 a5 a6 a7
  · refine G_iload (x := a6) (pc := 136) dX12_laysLine_136 rfl ?_
    refine G_if_lt (tgt := 160) (pc := 138) dX12_laysLine_138 ?_ ?_
    · exact gX12_laysLine_J160 hst fu s28 a0 a1 a2 a3 a5 a6 a7
    · refine G_iload_n (x := a3) (pc := 141) dX12_laysLine_141 rfl ?_
      refine G_aload_n (x := a0) (pc := 142) dX12_laysLine_142 rfl ?_
      refine G_getI (j := 20) (pc := 143) dX12_laysLine_143 rfl z_CLX12 (by decide) z_wX12_242 (by decide) (fun x98 => ?_)
      refine G_iconst (pc := 146) dX12_laysLine_146 ?_
      refine G_isub (pc := 147) dX12_laysLine_147 (fun x99 => ?_)
      refine G_icmp_ge (tgt := 160) (pc := 148) dX12_laysLine_148 ?_ ?_
      · exact gX12_laysLine_J160 hst fu s28 a0 a1 a2 a3 a5 a6 a7
      · refine G_iload (x := a5) (pc := 151) dX12_laysLine_151 rfl ?_
        refine G_if_le (tgt := 160) (pc := 153) dX12_laysLine_153 ?_ ?_
        · exact gX12_laysLine_J160 hst fu s28 a0 a1 a2 a3 a5 a6 a7
        · refine G_iconst (pc := 156) dX12_laysLine_156 ?_
          refine G_goto (tgt := 161) (pc := 157) dX12_laysLine_157 ?_
          exact gX12_laysLine_J161 hst fu s28 a0 a1 a2 a3 a5 a6 a7 1
def fX12_laysLine (fu : Nat) (s : z_M) (a0 : Int) (a1 : Int) : z_O := if z_ob a0 12 then z_let (z_gr a0 45) (fun x1 => if z_ix x1 100 a1 then z_let (s x1 a1) (fun x2 => if z_ob a0 12 then z_let (z_gr a0 45) (fun x3 => z_let (z_w (a1 + 1)) (fun x4 => if z_ix x3 100 x4 then z_let (s x3 x4) (fun x5 => z_let (z_w (x5 - 1)) (fun x6 => if z_ob a0 12 then z_bI (fX12_lays fu s a0 x2 x6) (fun x8 s7 => if z_ob a0 12 then z_let (z_gr a0 9) (fun x9 => if z_ix x9 100 0 then z_let (s7 x9 0) (fun x10 => z_let (z_w (x10 - x8)) (fun x11 => fX12_laysLine_L46 fu a0 a1 x2 x6 x8 x11 0 fu s7 0 x2 (fun s16 x17 => if z_ob a0 12 then z_let (z_gr a0 53) (fun x18 => if z_ix x18 100 a1 then z_let (z_up s16 x18 a1 x8) (fun s19 => if z_ob a0 12 then z_let (z_gr a0 54) (fun x20 => if z_ix x20 100 a1 then z_let (z_up s19 x20 a1 x17) (fun s21 => if z_ob a0 12 then z_let (z_gr a0 55) (fun x22 => if z_ix x22 100 a1 then z_let (z_up s21 x22 a1 0) (fun s23 => if z_ob a0 12 then z_let (z_gr a0 56) (fun x24 => if z_ix x24 100 a1 then z_let (z_up s23 x24 a1 0) (fun s25 => if z_ob a0 12 then z_let (z_gr a0 57) (fun x26 => if z_ob a0 12 then z_let (s25 a0 35) (fun x27 => if (x27 : Int) = 0 then (fX12_laysLine_J125 fu s25 a0 a1 x2 x6 x17 x11 0 x26 a1 0) else (fX12_laysLine_J125 fu s25 a0 a1 x2 x6 x17 x11 0 x26 a1 1)) else none) else none) else none) else none) else none) else none) else none) else none) else none) else none))) else none) else none) else none)) else none)) else none) else none) else none
theorem gX12_laysLine {l : Launch} {K : z_K} (hst : l.stackTraces = false) (fu : Nat) (s : z_M) (a0 : Int) (a1 : Int) : z_D l K mX12_laysLine 8 177 0 0 [vR a0, vI a1] s (fX12_laysLine fu s a0 a1) := by
  refine z_D_of (lv := [vR a0, vI a1, vU, vU, vU, vU, vU, vU, vU, vU, vU, vU, vU]) hst z_mX12_laysLine rfl ?_ (Nat.le_of_ble_eq_true rfl) rfl
  unfold fX12_laysLine
  refine G_aload_n (x := a0) (pc := 0) dX12_laysLine_0 rfl ?_
  refine G_getR (j := 45) (pc := 1) dX12_laysLine_1 rfl z_CLX12 (by decide) z_wX12_109 (by decide) (fun x1 => ?_)
  refine G_iload_n (x := a1) (pc := 4) dX12_laysLine_4 rfl ?_
  refine G_iald (pc := 5) dX12_laysLine_5 (fun x2 => ?_)
  refine G_istore_n (lv' := [vR a0, vI a1, vI x2, vU, vU, vU, vU, vU, vU, vU, vU, vU, vU]) (pc := 6) dX12_laysLine_6 rfl ?_
  refine G_aload_n (x := a0) (pc := 7) dX12_laysLine_7 rfl ?_
  refine G_getR (j := 45) (pc := 8) dX12_laysLine_8 rfl z_CLX12 (by decide) z_wX12_109 (by decide) (fun x3 => ?_)
  refine G_iload_n (x := a1) (pc := 11) dX12_laysLine_11 rfl ?_
  refine G_iconst (pc := 12) dX12_laysLine_12 ?_
  refine G_iadd (pc := 13) dX12_laysLine_13 (fun x4 => ?_)
  refine G_iald (pc := 14) dX12_laysLine_14 (fun x5 => ?_)
  refine G_iconst (pc := 15) dX12_laysLine_15 ?_
  refine G_isub (pc := 16) dX12_laysLine_16 (fun x6 => ?_)
  refine G_istore_n (lv' := [vR a0, vI a1, vI x2, vI x6, vU, vU, vU, vU, vU, vU, vU, vU, vU]) (pc := 17) dX12_laysLine_17 rfl ?_
  refine G_aload_n (x := a0) (pc := 18) dX12_laysLine_18 rfl ?_
  refine G_iload_n (x := x2) (pc := 19) dX12_laysLine_19 rfl ?_
  refine G_iload_n (x := x6) (pc := 20) dX12_laysLine_20 rfl ?_
  refine G_callVI (as := [vI x2, vI x6]) (st := []) (c := 12) (bc2 := 0) (bs2 := 0) (pc := 21) dX12_laysLine_21 z_mX12_lays z_vX12_lays z_wX12_329 (gX12_lays hst fu s a0 x2 x6) rfl rfl (by decide) rfl rfl ⟨by decide, by decide, by decide, by decide, Nat.le_of_ble_eq_true rfl⟩ rfl (fun x8 s7 => ?_)
  refine G_istore (lv' := [vR a0, vI a1, vI x2, vI x6, vI x8, vU, vU, vU, vU, vU, vU, vU, vU]) (pc := 24) dX12_laysLine_24 rfl ?_
  refine G_iconst (pc := 26) dX12_laysLine_26 ?_
  refine G_istore (lv' := [vR a0, vI a1, vI x2, vI x6, vI x8, vI 0, vU, vU, vU, vU, vU, vU, vU]) (pc := 27) dX12_laysLine_27 rfl ?_
  refine G_aload_n (x := a0) (pc := 29) dX12_laysLine_29 rfl ?_
  refine G_getR (j := 9) (pc := 30) dX12_laysLine_30 rfl z_CLX12 (by decide) z_wX12_20 (by decide) (fun x9 => ?_)
  refine G_iconst (pc := 33) dX12_laysLine_33 ?_
  refine G_iald (pc := 34) dX12_laysLine_34 (fun x10 => ?_)
  refine G_iload (x := x8) (pc := 35) dX12_laysLine_35 rfl ?_
  refine G_isub (pc := 37) dX12_laysLine_37 (fun x11 => ?_)
  refine G_istore (lv' := [vR a0, vI a1, vI x2, vI x6, vI x8, vI 0, vI x11, vU, vU, vU, vU, vU, vU]) (pc := 38) dX12_laysLine_38 rfl ?_
  refine G_iconst (pc := 40) dX12_laysLine_40 ?_
  refine G_istore (lv' := [vR a0, vI a1, vI x2, vI x6, vI x8, vI 0, vI x11, vI 0, vU, vU, vU, vU, vU]) (pc := 41) dX12_laysLine_41 rfl ?_
  refine G_iload_n (x := x2) (pc := 43) dX12_laysLine_43 rfl ?_
  refine G_istore (lv' := [vR a0, vI a1, vI x2, vI x6, vI x8, vI 0, vI x11, vI 0, vI x2, vU, vU, vU, vU]) (pc := 44) dX12_laysLine_44 rfl ?_
  refine gX12_laysLine_L46 hst fu a0 a1 x2 x6 x8 x11 0 _ (fun s16 x17 => ?_) fu s7 0 x2
  refine G_aload_n (x := a0) (pc := 78) dX12_laysLine_78 rfl ?_
  refine G_getR (j := 53) (pc := 79) dX12_laysLine_79 rfl z_CLX12 (by decide) z_wX12_134 (by decide) (fun x18 => ?_)
  refine G_iload_n (x := a1) (pc := 82) dX12_laysLine_82 rfl ?_
  refine G_iload (x := x8) (pc := 83) dX12_laysLine_83 rfl ?_
  refine G_iast (pc := 85) dX12_laysLine_85 (fun s19 => ?_)
  refine G_aload_n (x := a0) (pc := 86) dX12_laysLine_86 rfl ?_
  refine G_getR (j := 54) (pc := 87) dX12_laysLine_87 rfl z_CLX12 (by decide) z_wX12_137 (by decide) (fun x20 => ?_)
  refine G_iload_n (x := a1) (pc := 90) dX12_laysLine_90 rfl ?_
  refine G_iload (x := x17) (pc := 91) dX12_laysLine_91 rfl ?_
  refine G_iast (pc := 93) dX12_laysLine_93 (fun s21 => ?_)
  refine G_aload_n (x := a0) (pc := 94) dX12_laysLine_94 rfl ?_
  refine G_getR (j := 55) (pc := 95) dX12_laysLine_95 rfl z_CLX12 (by decide) z_wX12_140 (by decide) (fun x22 => ?_)
  refine G_iload_n (x := a1) (pc := 98) dX12_laysLine_98 rfl ?_
  refine G_iconst (pc := 99) dX12_laysLine_99 ?_
  refine G_iast (pc := 100) dX12_laysLine_100 (fun s23 => ?_)
  refine G_aload_n (x := a0) (pc := 101) dX12_laysLine_101 rfl ?_
  refine G_getR (j := 56) (pc := 102) dX12_laysLine_102 rfl z_CLX12 (by decide) z_wX12_143 (by decide) (fun x24 => ?_)
  refine G_iload_n (x := a1) (pc := 105) dX12_laysLine_105 rfl ?_
  refine G_iconst (pc := 106) dX12_laysLine_106 ?_
  refine G_iast (pc := 107) dX12_laysLine_107 (fun s25 => ?_)
  refine G_aload_n (x := a0) (pc := 108) dX12_laysLine_108 rfl ?_
  refine G_getR (j := 57) (pc := 109) dX12_laysLine_109 rfl z_CLX12 (by decide) z_wX12_146 (by decide) (fun x26 => ?_)
  refine G_iload_n (x := a1) (pc := 112) dX12_laysLine_112 rfl ?_
  refine G_aload_n (x := a0) (pc := 113) dX12_laysLine_113 rfl ?_
  refine G_getI (j := 35) (pc := 114) dX12_laysLine_114 rfl z_CLX12 (by decide) z_wX12_285 (by decide) (fun x27 => ?_)
  refine G_if_eq (tgt := 124) (pc := 117) dX12_laysLine_117 ?_ ?_
  · refine G_iconst (pc := 124) dX12_laysLine_124 ?_
    refine G_fg (lv2 := [vR a0, vI a1, vI x2, vI x6, vU, vI x17, vI x11, vI 0, vU, vU, vU, vU, vU]) ⟨Or.inr rfl, Or.inr rfl, Or.inr rfl, Or.inr rfl, Or.inl rfl, Or.inr rfl, Or.inr rfl, Or.inr rfl, Or.inl rfl, Or.inl rfl, Or.inl rfl, Or.inl rfl, Or.inl rfl, trivial⟩ ?_
    exact gX12_laysLine_J125 hst fu s25 a0 a1 x2 x6 x17 x11 0 x26 a1 0
  · refine G_iconst (pc := 120) dX12_laysLine_120 ?_
    refine G_goto (tgt := 125) (pc := 121) dX12_laysLine_121 ?_
    refine G_fg (lv2 := [vR a0, vI a1, vI x2, vI x6, vU, vI x17, vI x11, vI 0, vU, vU, vU, vU, vU]) ⟨Or.inr rfl, Or.inr rfl, Or.inr rfl, Or.inr rfl, Or.inl rfl, Or.inr rfl, Or.inr rfl, Or.inr rfl, Or.inl rfl, Or.inl rfl, Or.inl rfl, Or.inl rfl, Or.inl rfl, trivial⟩ ?_
    exact gX12_laysLine_J125 hst fu s25 a0 a1 x2 x6 x17 x11 0 x26 a1 1
def fX12_laysAll_L39 (fu : Nat) (a0 : Int) : Nat → z_M → Int → (z_M → z_O) → z_O
  | 0, _, _, _ => none
  | F + 1, s, a1, k => if z_ob a0 12 then z_let (s a0 44) (fun x11 => if (x11 : Int) ≤ a1 then (k s) else (if z_ob a0 12 then z_bN (fX12_laysLine fu s a0 a1) (fun s12 => z_let (z_w (a1 + 1)) (fun x13 => fX12_laysAll_L39 fu a0 F s12 x13 k)) else none)) else none
theorem gX12_laysAll_L39 {l : Launch} {K : z_K} (hst : l.stackTraces = false) (fu : Nat) (a0 : Int) (k : z_M → z_O) (hk : ∀ (s : z_M), G l K mX12_laysAll 10 229 0 0 58 [vR a0, vU] [] s (k s)) : ∀ (F : Nat) (s : z_M) (a1 : Int), G l K mX12_laysAll 10 229 0 0 39 [vR a0, vI a1] [] s (fX12_laysAll_L39 fu a0 F s a1 k) := by
  intro F
  induction F with
  | zero => exact fun s a1 h => absurd rfl h
  | succ F ih =>
    intro s a1
    rw [fX12_laysAll_L39]
    refine G_iload_n (x := a1) (pc := 39) dX12_laysAll_39 rfl ?_
    refine G_aload_n (x := a0) (pc := 40) dX12_laysAll_40 rfl ?_
    refine G_getI (j := 44) (pc := 41) dX12_laysAll_41 rfl z_CLX12 (by decide) z_wX12_365 (by decide) (fun x11 => ?_)
    refine G_icmp_ge (tgt := 58) (pc := 44) dX12_laysAll_44 ?_ ?_
    · refine G_fg (lv2 := [vR a0, vU]) ⟨Or.inr rfl, Or.inl rfl, trivial⟩ ?_
      exact hk s
    · refine G_aload_n (x := a0) (pc := 47) dX12_laysAll_47 rfl ?_
      refine G_iload_n (x := a1) (pc := 48) dX12_laysAll_48 rfl ?_
      refine G_callVN (as := [vI a1]) (st := []) (c := 12) (bc2 := 0) (bs2 := 0) (pc := 49) dX12_laysAll_49 z_mX12_laysLine z_vX12_laysLine z_wX12_368 (gX12_laysLine hst fu s a0 a1) rfl rfl (by decide) rfl rfl ⟨by decide, by decide, by decide, by decide, Nat.le_of_ble_eq_true rfl⟩ rfl (fun s12 => ?_)
      refine G_iinc (x := a1) (g := fun x13 => [vR a0, vI x13]) (pc := 52) dX12_laysAll_52 rfl (fun _ => rfl) (fun x13 => ?_)
      refine G_goto (tgt := 39) (pc := 55) dX12_laysAll_55 ?_
      exact ih s12 x13
def fX12_laysAll (fu : Nat) (s : z_M) (a0 : Int) : z_O := if z_ob a0 12 then z_bN (fX12_freshens fu s a0) (fun s1 => if z_ob a0 12 then z_let (s1 a0 43) (fun x2 => if (x2 : Int) = 0 then (if z_ob a0 12 then z_let (z_gr a0 9) (fun x3 => if z_ix x3 100 0 then z_let (s1 x3 0) (fun x4 => if z_ob a0 12 then z_let (z_gr a0 9) (fun x5 => if z_ix x5 100 3 then z_let (s1 x5 3) (fun x6 => if z_ob a0 12 then z_bI (fX12_breaks fu s1 a0 x4 x6) (fun x8 s7 => if z_ob a0 12 then z_let (z_up s7 a0 44 x8) (fun s9 => if z_ob a0 12 then z_let (z_up s9 a0 58 0) (fun s10 => fX12_laysAll_L39 fu a0 fu s10 0 (fun s14 => if z_ob a0 12 ∧ z_bl 1 then z_let (z_up s14 a0 43 1) (fun s15 => some (vN, s15)) else none)) else none) else none) else none) else none) else none) else none) else none) else (some (vN, s1))) else none) else none
theorem gX12_laysAll {l : Launch} {K : z_K} (hst : l.stackTraces = false) (fu : Nat) (s : z_M) (a0 : Int) : z_D l K mX12_laysAll 10 229 0 0 [vR a0] s (fX12_laysAll fu s a0) := by
  refine z_D_of (lv := [vR a0, vU]) hst z_mX12_laysAll rfl ?_ (Nat.le_of_ble_eq_true rfl) rfl
  unfold fX12_laysAll
  refine G_aload_n (x := a0) (pc := 0) dX12_laysAll_0 rfl ?_
  refine G_callVN (as := []) (st := []) (c := 12) (bc2 := 0) (bs2 := 0) (pc := 1) dX12_laysAll_1 z_mX12_freshens z_vX12_freshens z_wX12_326 (gX12_freshens hst fu s a0) rfl rfl (by decide) rfl rfl ⟨by decide, by decide, by decide, by decide, Nat.le_of_ble_eq_true rfl⟩ rfl (fun s1 => ?_)
  refine G_aload_n (x := a0) (pc := 4) dX12_laysAll_4 rfl ?_
  refine G_getI (j := 43) (pc := 5) dX12_laysAll_5 rfl z_CLX12 (by decide) z_wX12_323 (by decide) (fun x2 => ?_)
  refine G_if_eq (tgt := 12) (pc := 8) dX12_laysAll_8 ?_ ?_
  · refine G_aload_n (x := a0) (pc := 12) dX12_laysAll_12 rfl ?_
    refine G_aload_n (x := a0) (pc := 13) dX12_laysAll_13 rfl ?_
    refine G_aload_n (x := a0) (pc := 14) dX12_laysAll_14 rfl ?_
    refine G_getR (j := 9) (pc := 15) dX12_laysAll_15 rfl z_CLX12 (by decide) z_wX12_20 (by decide) (fun x3 => ?_)
    refine G_iconst (pc := 18) dX12_laysAll_18 ?_
    refine G_iald (pc := 19) dX12_laysAll_19 (fun x4 => ?_)
    refine G_aload_n (x := a0) (pc := 20) dX12_laysAll_20 rfl ?_
    refine G_getR (j := 9) (pc := 21) dX12_laysAll_21 rfl z_CLX12 (by decide) z_wX12_20 (by decide) (fun x5 => ?_)
    refine G_iconst (pc := 24) dX12_laysAll_24 ?_
    refine G_iald (pc := 25) dX12_laysAll_25 (fun x6 => ?_)
    refine G_callVI (as := [vI x4, vI x6]) (st := [vR a0]) (c := 12) (bc2 := 0) (bs2 := 0) (pc := 26) dX12_laysAll_26 z_mX12_breaks z_vX12_breaks z_wX12_362 (gX12_breaks hst fu s1 a0 x4 x6) rfl rfl (by decide) rfl rfl ⟨by decide, by decide, by decide, by decide, Nat.le_of_ble_eq_true rfl⟩ rfl (fun x8 s7 => ?_)
    refine G_putI (j := 44) (pc := 29) dX12_laysAll_29 rfl z_CLX12 (by decide) z_wX12_365 rfl (by decide) (by decide) (fun s9 => ?_)
    refine G_aload_n (x := a0) (pc := 32) dX12_laysAll_32 rfl ?_
    refine G_iconst (pc := 33) dX12_laysAll_33 ?_
    refine G_putI (j := 58) (pc := 34) dX12_laysAll_34 rfl z_CLX12 (by decide) z_wX12_359 rfl (by decide) (by decide) (fun s10 => ?_)
    refine G_iconst (pc := 37) dX12_laysAll_37 ?_
    refine G_istore_n (lv' := [vR a0, vI 0]) (pc := 38) dX12_laysAll_38 rfl ?_
    refine gX12_laysAll_L39 hst fu a0 _ (fun s14 => ?_) fu s10 0
    refine G_aload_n (x := a0) (pc := 58) dX12_laysAll_58 rfl ?_
    refine G_iconst (pc := 59) dX12_laysAll_59 ?_
    refine G_putZ (j := 43) (pc := 60) dX12_laysAll_60 rfl z_CLX12 (by decide) z_wX12_323 rfl (by decide) (fun s15 => ?_)
    exact G_vret (pc := 63) dX12_laysAll_63
  · exact G_vret (pc := 11) dX12_laysAll_11
def fX12_unfit_J33 (fu : Nat) (s : z_M) (a0 : Int) (a2 : Int) (t0 : Int) (t1 : Int) (r : z_M → Int → Int → z_O) (k : z_M → Int → z_O) : z_O := z_let (z_w (t0 + t1)) (fun x6 => z_let (z_w (a2 + 1)) (fun x7 => r s x6 x7))
theorem gX12_unfit_J33 {l : Launch} {K : z_K} (hst : l.stackTraces = false) (fu : Nat) (s : z_M) (a0 : Int) (a2 : Int) (t0 : Int) (t1 : Int) (r : z_M → Int → Int → z_O) (k : z_M → Int → z_O) (hr : ∀ (s : z_M) (a1 : Int) (a2 : Int), G l K mX12_unfit 0 0 0 0 4 [vR a0, vI a1, vI a2] [] s (r s a1 a2)) (hk : ∀ (s : z_M) (a1 : Int), G l K mX12_unfit 0 0 0 0 41 [vU, vI a1, vU] [] s (k s a1)) : G l K mX12_unfit 0 0 0 0 33 [vR a0, vU, vI a2] [vI t1, vI t0] s (fX12_unfit_J33 fu s a0 a2 t0 t1 r k) := by
  unfold fX12_unfit_J33
  refine G_iadd (pc := 33) dX12_unfit_33 (fun x6 => ?_)
  refine G_istore_n (lv' := [vR a0, vI x6, vI a2]) (pc := 34) dX12_unfit_34 rfl ?_
  refine G_iinc (x := a2) (g := fun x7 => [vR a0, vI x6, vI x7]) (pc := 35) dX12_unfit_35 rfl (fun _ => rfl) (fun x7 => ?_)
  refine G_goto (tgt := 4) (pc := 38) dX12_unfit_38 ?_
  exact hr s x6 x7
def fX12_unfit_L4 (fu : Nat) (a0 : Int) : Nat → z_M → Int → Int → (z_M → Int → z_O) → z_O
  | 0, _, _, _, _ => none
  | F + 1, s, a1, a2, k => if z_ob a0 12 then z_let (s a0 44) (fun x1 => if (x1 : Int) ≤ a2 then (k s a1) else (if z_ob a0 12 then z_let (z_gr a0 53) (fun x2 => if z_ix x2 100 a2 then z_let (s x2 a2) (fun x3 => if z_ob a0 12 then z_let (z_gr a0 9) (fun x4 => if z_ix x4 100 0 then z_let (s x4 0) (fun x5 => if (x3 : Int) ≤ x5 then (fX12_unfit_J33 fu s a0 a2 a1 0 (fun w v1 v2 => fX12_unfit_L4 fu a0 F w v1 v2 k) k) else (fX12_unfit_J33 fu s a0 a2 a1 1 (fun w v1 v2 => fX12_unfit_L4 fu a0 F w v1 v2 k) k)) else none) else none) else none) else none)) else none
theorem gX12_unfit_L4 {l : Launch} {K : z_K} (hst : l.stackTraces = false) (fu : Nat) (a0 : Int) (k : z_M → Int → z_O) (hk : ∀ (s : z_M) (a1 : Int), G l K mX12_unfit 0 0 0 0 41 [vU, vI a1, vU] [] s (k s a1)) : ∀ (F : Nat) (s : z_M) (a1 : Int) (a2 : Int), G l K mX12_unfit 0 0 0 0 4 [vR a0, vI a1, vI a2] [] s (fX12_unfit_L4 fu a0 F s a1 a2 k) := by
  intro F
  induction F with
  | zero => exact fun s a1 a2 h => absurd rfl h
  | succ F ih =>
    intro s a1 a2
    rw [fX12_unfit_L4]
    refine G_iload_n (x := a2) (pc := 4) dX12_unfit_4 rfl ?_
    refine G_aload_n (x := a0) (pc := 5) dX12_unfit_5 rfl ?_
    refine G_getI (j := 44) (pc := 6) dX12_unfit_6 rfl z_CLX12 (by decide) z_wX12_365 (by decide) (fun x1 => ?_)
    refine G_icmp_ge (tgt := 41) (pc := 9) dX12_unfit_9 ?_ ?_
    · refine G_fg (lv2 := [vU, vI a1, vU]) ⟨Or.inl rfl, Or.inr rfl, Or.inl rfl, trivial⟩ ?_
      exact hk s a1
    · refine G_iload_n (x := a1) (pc := 12) dX12_unfit_12 rfl ?_
      refine G_aload_n (x := a0) (pc := 13) dX12_unfit_13 rfl ?_
      refine G_getR (j := 53) (pc := 14) dX12_unfit_14 rfl z_CLX12 (by decide) z_wX12_134 (by decide) (fun x2 => ?_)
      refine G_iload_n (x := a2) (pc := 17) dX12_unfit_17 rfl ?_
      refine G_iald (pc := 18) dX12_unfit_18 (fun x3 => ?_)
      refine G_aload_n (x := a0) (pc := 19) dX12_unfit_19 rfl ?_
      refine G_getR (j := 9) (pc := 20) dX12_unfit_20 rfl z_CLX12 (by decide) z_wX12_20 (by decide) (fun x4 => ?_)
      refine G_iconst (pc := 23) dX12_unfit_23 ?_
      refine G_iald (pc := 24) dX12_unfit_24 (fun x5 => ?_)
      refine G_icmp_le (tgt := 32) (pc := 25) dX12_unfit_25 ?_ ?_
      · refine G_iconst (pc := 32) dX12_unfit_32 ?_
        refine G_fg (lv2 := [vR a0, vU, vI a2]) ⟨Or.inr rfl, Or.inl rfl, Or.inr rfl, trivial⟩ ?_
        exact gX12_unfit_J33 hst fu s a0 a2 a1 0 _ _ (fun w v1 v2 => ih w v1 v2) hk
      · refine G_iconst (pc := 28) dX12_unfit_28 ?_
        refine G_goto (tgt := 33) (pc := 29) dX12_unfit_29 ?_
        refine G_fg (lv2 := [vR a0, vU, vI a2]) ⟨Or.inr rfl, Or.inl rfl, Or.inr rfl, trivial⟩ ?_
        exact gX12_unfit_J33 hst fu s a0 a2 a1 1 _ _ (fun w v1 v2 => ih w v1 v2) hk
def fX12_unfit (fu : Nat) (s : z_M) (a0 : Int) : z_O := fX12_unfit_L4 fu a0 fu s 0 0 (fun s8 x9 => some (vI x9, s8))
theorem gX12_unfit {l : Launch} {K : z_K} (hst : l.stackTraces = false) (fu : Nat) (s : z_M) (a0 : Int) : z_D l K mX12_unfit 0 0 0 0 [vR a0] s (fX12_unfit fu s a0) := by
  refine z_D_of (lv := [vR a0, vU, vU]) hst z_mX12_unfit rfl ?_ (Nat.le_of_ble_eq_true rfl) rfl
  unfold fX12_unfit
  refine G_iconst (pc := 0) dX12_unfit_0 ?_
  refine G_istore_n (lv' := [vR a0, vI 0, vU]) (pc := 1) dX12_unfit_1 rfl ?_
  refine G_iconst (pc := 2) dX12_unfit_2 ?_
  refine G_istore_n (lv' := [vR a0, vI 0, vI 0]) (pc := 3) dX12_unfit_3 rfl ?_
  refine gX12_unfit_L4 hst fu a0 _ (fun s8 x9 => ?_) fu s 0 0
  refine G_iload_n (x := x9) (pc := 41) dX12_unfit_41 rfl ?_
  exact G_iret (pc := 42) dX12_unfit_42
def fX12_costs_L4 (fu : Nat) (a0 : Int) : Nat → z_M → Int → Int → (z_M → Int → z_O) → z_O
  | 0, _, _, _, _ => none
  | F + 1, s, a1, a3, k => if z_ob a0 12 then z_let (s a0 44) (fun x1 => if (x1 : Int) ≤ a3 then (k s a1) else (if z_ob a0 12 then z_let (z_gr a0 45) (fun x2 => if z_ix x2 100 a3 then z_let (s x2 a3) (fun x3 => if z_ob a0 12 then z_let (z_gr a0 45) (fun x4 => z_let (z_w (a3 + 1)) (fun x5 => if z_ix x4 100 x5 then z_let (s x4 x5) (fun x6 => z_let (z_w (x6 - 1)) (fun x7 => if z_ob a0 12 then z_let (z_gr a0 9) (fun x8 => if z_ix x8 100 0 then z_let (s x8 0) (fun x9 => if z_ob a0 12 then z_bL (fX12_cost fu s a0 x3 x7 x9) (fun x11 s10 => z_let (z_wl (a1 + x11)) (fun x12 => z_let (z_w (a3 + 1)) (fun x13 => fX12_costs_L4 fu a0 F s10 x12 x13 k))) else none) else none) else none)) else none)) else none) else none) else none)) else none
theorem gX12_costs_L4 {l : Launch} {K : z_K} (hst : l.stackTraces = false) (fu : Nat) (a0 : Int) (k : z_M → Int → z_O) (hk : ∀ (s : z_M) (a1 : Int), G l K mX12_costs 8 180 0 0 47 [vU, vL a1, vU, vU] [] s (k s a1)) : ∀ (F : Nat) (s : z_M) (a1 : Int) (a3 : Int), G l K mX12_costs 8 180 0 0 4 [vR a0, vL a1, vU, vI a3] [] s (fX12_costs_L4 fu a0 F s a1 a3 k) := by
  intro F
  induction F with
  | zero => exact fun s a1 a3 h => absurd rfl h
  | succ F ih =>
    intro s a1 a3
    rw [fX12_costs_L4]
    refine G_iload_n (x := a3) (pc := 4) dX12_costs_4 rfl ?_
    refine G_aload_n (x := a0) (pc := 5) dX12_costs_5 rfl ?_
    refine G_getI (j := 44) (pc := 6) dX12_costs_6 rfl z_CLX12 (by decide) z_wX12_365 (by decide) (fun x1 => ?_)
    refine G_icmp_ge (tgt := 47) (pc := 9) dX12_costs_9 ?_ ?_
    · refine G_fg (lv2 := [vU, vL a1, vU, vU]) ⟨Or.inl rfl, Or.inr rfl, Or.inl rfl, Or.inl rfl, trivial⟩ ?_
      exact hk s a1
    · refine G_lload_n (x := a1) (pc := 12) dX12_costs_12 rfl ?_
      refine G_aload_n (x := a0) (pc := 13) dX12_costs_13 rfl ?_
      refine G_aload_n (x := a0) (pc := 14) dX12_costs_14 rfl ?_
      refine G_getR (j := 45) (pc := 15) dX12_costs_15 rfl z_CLX12 (by decide) z_wX12_109 (by decide) (fun x2 => ?_)
      refine G_iload_n (x := a3) (pc := 18) dX12_costs_18 rfl ?_
      refine G_iald (pc := 19) dX12_costs_19 (fun x3 => ?_)
      refine G_aload_n (x := a0) (pc := 20) dX12_costs_20 rfl ?_
      refine G_getR (j := 45) (pc := 21) dX12_costs_21 rfl z_CLX12 (by decide) z_wX12_109 (by decide) (fun x4 => ?_)
      refine G_iload_n (x := a3) (pc := 24) dX12_costs_24 rfl ?_
      refine G_iconst (pc := 25) dX12_costs_25 ?_
      refine G_iadd (pc := 26) dX12_costs_26 (fun x5 => ?_)
      refine G_iald (pc := 27) dX12_costs_27 (fun x6 => ?_)
      refine G_iconst (pc := 28) dX12_costs_28 ?_
      refine G_isub (pc := 29) dX12_costs_29 (fun x7 => ?_)
      refine G_aload_n (x := a0) (pc := 30) dX12_costs_30 rfl ?_
      refine G_getR (j := 9) (pc := 31) dX12_costs_31 rfl z_CLX12 (by decide) z_wX12_20 (by decide) (fun x8 => ?_)
      refine G_iconst (pc := 34) dX12_costs_34 ?_
      refine G_iald (pc := 35) dX12_costs_35 (fun x9 => ?_)
      refine G_callVL (as := [vI x3, vI x7, vI x9]) (st := [vL a1]) (c := 12) (bc2 := 0) (bs2 := 0) (pc := 36) dX12_costs_36 z_mX12_cost z_vX12_cost z_wX12_342 (gX12_cost hst fu s a0 x3 x7 x9) rfl rfl (by decide) rfl rfl ⟨by decide, by decide, by decide, by decide, Nat.le_of_ble_eq_true rfl⟩ rfl (fun x11 s10 => ?_)
      refine G_ladd (pc := 39) dX12_costs_39 (fun x12 => ?_)
      refine G_lstore_n (lv' := [vR a0, vL x12, vU, vI a3]) (pc := 40) dX12_costs_40 rfl ?_
      refine G_iinc (x := a3) (g := fun x13 => [vR a0, vL x12, vU, vI x13]) (pc := 41) dX12_costs_41 rfl (fun _ => rfl) (fun x13 => ?_)
      refine G_goto (tgt := 4) (pc := 44) dX12_costs_44 ?_
      exact ih s10 x12 x13
def fX12_costs (fu : Nat) (s : z_M) (a0 : Int) : z_O := fX12_costs_L4 fu a0 fu s 0 0 (fun s14 x15 => some (vL x15, s14))
theorem gX12_costs {l : Launch} {K : z_K} (hst : l.stackTraces = false) (fu : Nat) (s : z_M) (a0 : Int) : z_D l K mX12_costs 8 180 0 0 [vR a0] s (fX12_costs fu s a0) := by
  refine z_D_of (lv := [vR a0, vU, vU, vU]) hst z_mX12_costs rfl ?_ (Nat.le_of_ble_eq_true rfl) rfl
  unfold fX12_costs
  refine G_lconst (y := 0) (pc := 0) dX12_costs_0 ?_
  refine G_lstore_n (lv' := [vR a0, vL 0, vU, vU]) (pc := 1) dX12_costs_1 rfl ?_
  refine G_iconst (pc := 2) dX12_costs_2 ?_
  refine G_istore_n (lv' := [vR a0, vL 0, vU, vI 0]) (pc := 3) dX12_costs_3 rfl ?_
  refine gX12_costs_L4 hst fu a0 _ (fun s14 x15 => ?_) fu s 0 0
  refine G_lload_n (x := x15) (pc := 47) dX12_costs_47 rfl ?_
  exact G_lret (pc := 48) dX12_costs_48
def fX12_longest_L4 (fu : Nat) (a0 : Int) : Nat → z_M → Int → Int → (z_M → Int → z_O) → z_O
  | 0, _, _, _, _ => none
  | F + 1, s, a1, a2, k => if z_ob a0 12 then z_let (s a0 44) (fun x1 => if (x1 : Int) ≤ a2 then (k s a1) else (if z_ob a0 12 then z_let (z_gr a0 53) (fun x2 => if z_ix x2 100 a2 then z_let (s x2 a2) (fun x3 => z_bI (fX12_more fu s a1 x3) (fun x5 s4 => z_let (z_w (a2 + 1)) (fun x6 => fX12_longest_L4 fu a0 F s4 x5 x6 k))) else none) else none)) else none
theorem gX12_longest_L4 {l : Launch} {K : z_K} (hst : l.stackTraces = false) (fu : Nat) (a0 : Int) (k : z_M → Int → z_O) (hk : ∀ (s : z_M) (a1 : Int), G l K mX12_longest 1 21 0 0 29 [vU, vI a1, vU] [] s (k s a1)) : ∀ (F : Nat) (s : z_M) (a1 : Int) (a2 : Int), G l K mX12_longest 1 21 0 0 4 [vR a0, vI a1, vI a2] [] s (fX12_longest_L4 fu a0 F s a1 a2 k) := by
  intro F
  induction F with
  | zero => exact fun s a1 a2 h => absurd rfl h
  | succ F ih =>
    intro s a1 a2
    rw [fX12_longest_L4]
    refine G_iload_n (x := a2) (pc := 4) dX12_longest_4 rfl ?_
    refine G_aload_n (x := a0) (pc := 5) dX12_longest_5 rfl ?_
    refine G_getI (j := 44) (pc := 6) dX12_longest_6 rfl z_CLX12 (by decide) z_wX12_365 (by decide) (fun x1 => ?_)
    refine G_icmp_ge (tgt := 29) (pc := 9) dX12_longest_9 ?_ ?_
    · refine G_fg (lv2 := [vU, vI a1, vU]) ⟨Or.inl rfl, Or.inr rfl, Or.inl rfl, trivial⟩ ?_
      exact hk s a1
    · refine G_iload_n (x := a1) (pc := 12) dX12_longest_12 rfl ?_
      refine G_aload_n (x := a0) (pc := 13) dX12_longest_13 rfl ?_
      refine G_getR (j := 53) (pc := 14) dX12_longest_14 rfl z_CLX12 (by decide) z_wX12_134 (by decide) (fun x2 => ?_)
      refine G_iload_n (x := a2) (pc := 17) dX12_longest_17 rfl ?_
      refine G_iald (pc := 18) dX12_longest_18 (fun x3 => ?_)
      refine G_callSI (as := [vI a1, vI x3]) (st := []) (bc2 := 0) (bs2 := 0) (pc := 19) dX12_longest_19 z_mX12_more z_sX12_more z_wX12_256 (gX12_more hst fu s a1 x3) rfl rfl ⟨by decide, by decide, by decide, by decide, Nat.le_of_ble_eq_true rfl⟩ rfl (fun x5 s4 => ?_)
      refine G_istore_n (lv' := [vR a0, vI x5, vI a2]) (pc := 22) dX12_longest_22 rfl ?_
      refine G_iinc (x := a2) (g := fun x6 => [vR a0, vI x5, vI x6]) (pc := 23) dX12_longest_23 rfl (fun _ => rfl) (fun x6 => ?_)
      refine G_goto (tgt := 4) (pc := 26) dX12_longest_26 ?_
      exact ih s4 x5 x6
def fX12_longest (fu : Nat) (s : z_M) (a0 : Int) : z_O := fX12_longest_L4 fu a0 fu s 0 0 (fun s7 x8 => some (vI x8, s7))
theorem gX12_longest {l : Launch} {K : z_K} (hst : l.stackTraces = false) (fu : Nat) (s : z_M) (a0 : Int) : z_D l K mX12_longest 1 21 0 0 [vR a0] s (fX12_longest fu s a0) := by
  refine z_D_of (lv := [vR a0, vU, vU]) hst z_mX12_longest rfl ?_ (Nat.le_of_ble_eq_true rfl) rfl
  unfold fX12_longest
  refine G_iconst (pc := 0) dX12_longest_0 ?_
  refine G_istore_n (lv' := [vR a0, vI 0, vU]) (pc := 1) dX12_longest_1 rfl ?_
  refine G_iconst (pc := 2) dX12_longest_2 ?_
  refine G_istore_n (lv' := [vR a0, vI 0, vI 0]) (pc := 3) dX12_longest_3 rfl ?_
  refine gX12_longest_L4 hst fu a0 _ (fun s7 x8 => ?_) fu s 0 0
  refine G_iload_n (x := x8) (pc := 29) dX12_longest_29 rfl ?_
  exact G_iret (pc := 30) dX12_longest_30
def fX12_told_J21 (fu : Nat) (s : z_M) (a0 : Int) (a1 : Int) (t0 : Int) (t1 : Int) : z_O := if z_ob t0 12 then z_bI (fX12_bad fu s t0 t1 1 1) (fun x5 s4 => if (x5 : Int) = 0 then (if z_ob a0 12 then z_bN (fX12_laysAll fu s4 a0) (fun s6 => if a1 = (0 : Int) then (if z_ob a0 12 then z_let (s6 a0 20) (fun x7 => some (vL x7, s6)) else none) else (if a1 = (1 : Int) then (if z_ob a0 12 then z_let (z_gr a0 12) (fun x8 => if z_ix x8 103 0 then z_let (z_gr x8 0) (fun x9 => if z_ix x9 100 0 then z_let (s6 x9 0) (fun x10 => some (vL x10, s6)) else none) else none) else none) else (if a1 = (2 : Int) then (if z_ob a0 12 then z_bI (fX12_groupsOf fu s6 a0 0) (fun x12 s11 => some (vL x12, s11)) else none) else (if a1 = (3 : Int) then (if z_ob a0 12 then z_let (s6 a0 44) (fun x13 => some (vL x13, s6)) else none) else (if a1 = (4 : Int) then (if z_ob a0 12 then z_bI (fX12_longest fu s6 a0) (fun x15 s14 => some (vL x15, s14)) else none) else (if a1 = (5 : Int) then (if z_ob a0 12 then z_bL (fX12_costs fu s6 a0) (fun x17 s16 => some (vL x17, s16)) else none) else (if a1 = (6 : Int) then (if z_ob a0 12 then z_let (z_gr a0 9) (fun x18 => z_let (z_w (a1 - 6)) (fun x19 => if z_ix x18 100 x19 then z_let (s6 x18 x19) (fun x20 => some (vL x20, s6)) else none)) else none) else (if a1 = (7 : Int) then (if z_ob a0 12 then z_let (z_gr a0 9) (fun x21 => z_let (z_w (a1 - 6)) (fun x22 => if z_ix x21 100 x22 then z_let (s6 x21 x22) (fun x23 => some (vL x23, s6)) else none)) else none) else (if a1 = (8 : Int) then (if z_ob a0 12 then z_let (z_gr a0 9) (fun x24 => z_let (z_w (a1 - 6)) (fun x25 => if z_ix x24 100 x25 then z_let (s6 x24 x25) (fun x26 => some (vL x26, s6)) else none)) else none) else (if a1 = (9 : Int) then (if z_ob a0 12 then z_let (z_gr a0 9) (fun x27 => z_let (z_w (a1 - 6)) (fun x28 => if z_ix x27 100 x28 then z_let (s6 x27 x28) (fun x29 => some (vL x29, s6)) else none)) else none) else (if a1 = (10 : Int) then (if z_ob a0 12 then z_let (z_gr a0 9) (fun x30 => z_let (z_w (a1 - 6)) (fun x31 => if z_ix x30 100 x31 then z_let (s6 x30 x31) (fun x32 => some (vL x32, s6)) else none)) else none) else (if a1 = (11 : Int) then (if z_ob a0 12 then z_let (z_gr a0 9) (fun x33 => z_let (z_w (a1 - 6)) (fun x34 => if z_ix x33 100 x34 then z_let (s6 x33 x34) (fun x35 => some (vL x35, s6)) else none)) else none) else (if a1 = (12 : Int) then (if z_ob a0 12 then z_let (z_gr a0 9) (fun x36 => z_let (z_w (a1 - 6)) (fun x37 => if z_ix x36 100 x37 then z_let (s6 x36 x37) (fun x38 => some (vL x38, s6)) else none)) else none) else (if a1 = (13 : Int) then (if z_ob a0 12 then z_let (s6 a0 19) (fun x39 => some (vL x39, s6)) else none) else (if a1 = (14 : Int) then (if z_ob a0 12 then z_let (s6 a0 2) (fun x40 => some (vL x40, s6)) else none) else (if a1 = (15 : Int) then (if z_ob a0 12 then z_bI (fX12_unfit fu s6 a0) (fun x42 s41 => some (vL x42, s41)) else none) else (if a1 = (16 : Int) then (if z_ob a0 12 then z_let (z_gr a0 9) (fun x43 => z_let (z_w (a1 - 9)) (fun x44 => if z_ix x43 100 x44 then z_let (s6 x43 x44) (fun x45 => some (vL x45, s6)) else none)) else none) else (if a1 = (17 : Int) then (if z_ob a0 12 then z_let (z_gr a0 9) (fun x46 => z_let (z_w (a1 - 9)) (fun x47 => if z_ix x46 100 x47 then z_let (s6 x46 x47) (fun x48 => some (vL x48, s6)) else none)) else none) else (if a1 = (18 : Int) then (if z_ob a0 12 then z_let (s6 a0 38) (fun x49 => some (vL x49, s6)) else none) else (if a1 = (19 : Int) then (if z_ob a0 12 then z_let (s6 a0 39) (fun x50 => some (vL x50, s6)) else none) else (if z_ob a0 12 then z_let (z_gr a0 9) (fun x51 => z_let (z_w (a1 - 6)) (fun x52 => if z_ix x51 100 x52 then z_let (s6 x51 x52) (fun x53 => some (vL x53, s6)) else none)) else none))))))))))))))))))))) else none) else (some (vL 0, s4))) else none
theorem gX12_told_J21 {l : Launch} {K : z_K} (hst : l.stackTraces = false) (fu : Nat) (s : z_M) (a0 : Int) (a1 : Int) (t0 : Int) (t1 : Int) : G l K mX12_told 11 250 0 0 21 [vR a0, vI a1] [vI t1, vR t0] s (fX12_told_J21 fu s a0 a1 t0 t1) := by
  unfold fX12_told_J21
  refine G_iconst (pc := 21) dX12_told_21 ?_
  refine G_iconst (pc := 22) dX12_told_22 ?_
  refine G_callVI (as := [vI t1, vI 1, vI 1]) (st := []) (c := 12) (bc2 := 0) (bs2 := 0) (pc := 23) dX12_told_23 z_mX12_bad z_vX12_bad z_wX12_249 (gX12_bad hst fu s t0 t1 1 1) rfl rfl (by decide) rfl rfl ⟨by decide, by decide, by decide, by decide, Nat.le_of_ble_eq_true rfl⟩ rfl (fun x5 s4 => ?_)
  refine G_if_eq (tgt := 31) (pc := 26) dX12_told_26 ?_ ?_
  · refine G_aload_n (x := a0) (pc := 31) dX12_told_31 rfl ?_
    refine G_callVN (as := []) (st := []) (c := 12) (bc2 := 0) (bs2 := 0) (pc := 32) dX12_told_32 z_mX12_laysAll z_vX12_laysAll z_wX12_371 (gX12_laysAll hst fu s4 a0) rfl rfl (by decide) rfl rfl ⟨by decide, by decide, by decide, by decide, Nat.le_of_ble_eq_true rfl⟩ rfl (fun s6 => ?_)
    refine G_iload_n (x := a1) (pc := 35) dX12_told_35 rfl ?_
    refine G_ite (fun h0 => ?_) (fun h0 => ?_)
    · refine G_tableIn (off := 96) (tgt := 132) (pc := 36) dX12_told_36 (by omega) (by rw [h0]; rfl) (by decide) ?_
      refine G_aload_n (x := a0) (pc := 132) dX12_told_132 rfl ?_
      refine G_getI (j := 20) (pc := 133) dX12_told_133 rfl z_CLX12 (by decide) z_wX12_242 (by decide) (fun x7 => ?_)
      refine G_i2l (pc := 136) dX12_told_136 ?_
      exact G_lret (pc := 137) dX12_told_137
    · refine G_ite (fun h1 => ?_) (fun h1 => ?_)
      · refine G_tableIn (off := 102) (tgt := 138) (pc := 36) dX12_told_36 (by omega) (by rw [h1]; rfl) (by decide) ?_
        refine G_aload_n (x := a0) (pc := 138) dX12_told_138 rfl ?_
        refine G_getR (j := 12) (pc := 139) dX12_told_139 rfl z_CLX12 (by decide) z_wX12_31 (by decide) (fun x8 => ?_)
        refine G_iconst (pc := 142) dX12_told_142 ?_
        refine G_aald103 (pc := 143) dX12_told_143 (fun x9 => ?_)
        refine G_iconst (pc := 144) dX12_told_144 ?_
        refine G_iald (pc := 145) dX12_told_145 (fun x10 => ?_)
        refine G_i2l (pc := 146) dX12_told_146 ?_
        exact G_lret (pc := 147) dX12_told_147
      · refine G_ite (fun h2 => ?_) (fun h2 => ?_)
        · refine G_tableIn (off := 112) (tgt := 148) (pc := 36) dX12_told_36 (by omega) (by rw [h2]; rfl) (by decide) ?_
          refine G_aload_n (x := a0) (pc := 148) dX12_told_148 rfl ?_
          refine G_iconst (pc := 149) dX12_told_149 ?_
          refine G_callVI (as := [vI 0]) (st := []) (c := 12) (bc2 := 0) (bs2 := 0) (pc := 150) dX12_told_150 z_mX12_groupsOf z_vX12_groupsOf z_wX12_213 (gX12_groupsOf hst fu s6 a0 0) rfl rfl (by decide) rfl rfl ⟨by decide, by decide, by decide, by decide, Nat.le_of_ble_eq_true rfl⟩ rfl (fun x12 s11 => ?_)
          refine G_i2l (pc := 153) dX12_told_153 ?_
          exact G_lret (pc := 154) dX12_told_154
        · refine G_ite (fun h3 => ?_) (fun h3 => ?_)
          · refine G_tableIn (off := 119) (tgt := 155) (pc := 36) dX12_told_36 (by omega) (by rw [h3]; rfl) (by decide) ?_
            refine G_aload_n (x := a0) (pc := 155) dX12_told_155 rfl ?_
            refine G_getI (j := 44) (pc := 156) dX12_told_156 rfl z_CLX12 (by decide) z_wX12_365 (by decide) (fun x13 => ?_)
            refine G_i2l (pc := 159) dX12_told_159 ?_
            exact G_lret (pc := 160) dX12_told_160
          · refine G_ite (fun h4 => ?_) (fun h4 => ?_)
            · refine G_tableIn (off := 125) (tgt := 161) (pc := 36) dX12_told_36 (by omega) (by rw [h4]; rfl) (by decide) ?_
              refine G_aload_n (x := a0) (pc := 161) dX12_told_161 rfl ?_
              refine G_callVI (as := []) (st := []) (c := 12) (bc2 := 0) (bs2 := 0) (pc := 162) dX12_told_162 z_mX12_longest z_vX12_longest z_wX12_374 (gX12_longest hst fu s6 a0) rfl rfl (by decide) rfl rfl ⟨by decide, by decide, by decide, by decide, Nat.le_of_ble_eq_true rfl⟩ rfl (fun x15 s14 => ?_)
              refine G_i2l (pc := 165) dX12_told_165 ?_
              exact G_lret (pc := 166) dX12_told_166
            · refine G_ite (fun h5 => ?_) (fun h5 => ?_)
              · refine G_tableIn (off := 131) (tgt := 167) (pc := 36) dX12_told_36 (by omega) (by rw [h5]; rfl) (by decide) ?_
                refine G_aload_n (x := a0) (pc := 167) dX12_told_167 rfl ?_
                refine G_callVL (as := []) (st := []) (c := 12) (bc2 := 0) (bs2 := 0) (pc := 168) dX12_told_168 z_mX12_costs z_vX12_costs z_wX12_377 (gX12_costs hst fu s6 a0) rfl rfl (by decide) rfl rfl ⟨by decide, by decide, by decide, by decide, Nat.le_of_ble_eq_true rfl⟩ rfl (fun x17 s16 => ?_)
                exact G_lret (pc := 171) dX12_told_171
              · refine G_ite (fun h6 => ?_) (fun h6 => ?_)
                · refine G_tableIn (off := 177) (tgt := 213) (pc := 36) dX12_told_36 (by omega) (by rw [h6]; rfl) (by decide) ?_
                  refine G_aload_n (x := a0) (pc := 213) dX12_told_213 rfl ?_
                  refine G_getR (j := 9) (pc := 214) dX12_told_214 rfl z_CLX12 (by decide) z_wX12_20 (by decide) (fun x18 => ?_)
                  refine G_iload_n (x := a1) (pc := 217) dX12_told_217 rfl ?_
                  refine G_bipush (pc := 218) dX12_told_218 ?_
                  refine G_isub (pc := 220) dX12_told_220 (fun x19 => ?_)
                  refine G_iald (pc := 221) dX12_told_221 (fun x20 => ?_)
                  refine G_i2l (pc := 222) dX12_told_222 ?_
                  exact G_lret (pc := 223) dX12_told_223
                · refine G_ite (fun h7 => ?_) (fun h7 => ?_)
                  · refine G_tableIn (off := 177) (tgt := 213) (pc := 36) dX12_told_36 (by omega) (by rw [h7]; rfl) (by decide) ?_
                    refine G_aload_n (x := a0) (pc := 213) dX12_told_213 rfl ?_
                    refine G_getR (j := 9) (pc := 214) dX12_told_214 rfl z_CLX12 (by decide) z_wX12_20 (by decide) (fun x21 => ?_)
                    refine G_iload_n (x := a1) (pc := 217) dX12_told_217 rfl ?_
                    refine G_bipush (pc := 218) dX12_told_218 ?_
                    refine G_isub (pc := 220) dX12_told_220 (fun x22 => ?_)
                    refine G_iald (pc := 221) dX12_told_221 (fun x23 => ?_)
                    refine G_i2l (pc := 222) dX12_told_222 ?_
                    exact G_lret (pc := 223) dX12_told_223
                  · refine G_ite (fun h8 => ?_) (fun h8 => ?_)
                    · refine G_tableIn (off := 177) (tgt := 213) (pc := 36) dX12_told_36 (by omega) (by rw [h8]; rfl) (by decide) ?_
                      refine G_aload_n (x := a0) (pc := 213) dX12_told_213 rfl ?_
                      refine G_getR (j := 9) (pc := 214) dX12_told_214 rfl z_CLX12 (by decide) z_wX12_20 (by decide) (fun x24 => ?_)
                      refine G_iload_n (x := a1) (pc := 217) dX12_told_217 rfl ?_
                      refine G_bipush (pc := 218) dX12_told_218 ?_
                      refine G_isub (pc := 220) dX12_told_220 (fun x25 => ?_)
                      refine G_iald (pc := 221) dX12_told_221 (fun x26 => ?_)
                      refine G_i2l (pc := 222) dX12_told_222 ?_
                      exact G_lret (pc := 223) dX12_told_223
                    · refine G_ite (fun h9 => ?_) (fun h9 => ?_)
                      · refine G_tableIn (off := 177) (tgt := 213) (pc := 36) dX12_told_36 (by omega) (by rw [h9]; rfl) (by decide) ?_
                        refine G_aload_n (x := a0) (pc := 213) dX12_told_213 rfl ?_
                        refine G_getR (j := 9) (pc := 214) dX12_told_214 rfl z_CLX12 (by decide) z_wX12_20 (by decide) (fun x27 => ?_)
                        refine G_iload_n (x := a1) (pc := 217) dX12_told_217 rfl ?_
                        refine G_bipush (pc := 218) dX12_told_218 ?_
                        refine G_isub (pc := 220) dX12_told_220 (fun x28 => ?_)
                        refine G_iald (pc := 221) dX12_told_221 (fun x29 => ?_)
                        refine G_i2l (pc := 222) dX12_told_222 ?_
                        exact G_lret (pc := 223) dX12_told_223
                      · refine G_ite (fun h10 => ?_) (fun h10 => ?_)
                        · refine G_tableIn (off := 177) (tgt := 213) (pc := 36) dX12_told_36 (by omega) (by rw [h10]; rfl) (by decide) ?_
                          refine G_aload_n (x := a0) (pc := 213) dX12_told_213 rfl ?_
                          refine G_getR (j := 9) (pc := 214) dX12_told_214 rfl z_CLX12 (by decide) z_wX12_20 (by decide) (fun x30 => ?_)
                          refine G_iload_n (x := a1) (pc := 217) dX12_told_217 rfl ?_
                          refine G_bipush (pc := 218) dX12_told_218 ?_
                          refine G_isub (pc := 220) dX12_told_220 (fun x31 => ?_)
                          refine G_iald (pc := 221) dX12_told_221 (fun x32 => ?_)
                          refine G_i2l (pc := 222) dX12_told_222 ?_
                          exact G_lret (pc := 223) dX12_told_223
                        · refine G_ite (fun h11 => ?_) (fun h11 => ?_)
                          · refine G_tableIn (off := 177) (tgt := 213) (pc := 36) dX12_told_36 (by omega) (by rw [h11]; rfl) (by decide) ?_
                            refine G_aload_n (x := a0) (pc := 213) dX12_told_213 rfl ?_
                            refine G_getR (j := 9) (pc := 214) dX12_told_214 rfl z_CLX12 (by decide) z_wX12_20 (by decide) (fun x33 => ?_)
                            refine G_iload_n (x := a1) (pc := 217) dX12_told_217 rfl ?_
                            refine G_bipush (pc := 218) dX12_told_218 ?_
                            refine G_isub (pc := 220) dX12_told_220 (fun x34 => ?_)
                            refine G_iald (pc := 221) dX12_told_221 (fun x35 => ?_)
                            refine G_i2l (pc := 222) dX12_told_222 ?_
                            exact G_lret (pc := 223) dX12_told_223
                          · refine G_ite (fun h12 => ?_) (fun h12 => ?_)
                            · refine G_tableIn (off := 177) (tgt := 213) (pc := 36) dX12_told_36 (by omega) (by rw [h12]; rfl) (by decide) ?_
                              refine G_aload_n (x := a0) (pc := 213) dX12_told_213 rfl ?_
                              refine G_getR (j := 9) (pc := 214) dX12_told_214 rfl z_CLX12 (by decide) z_wX12_20 (by decide) (fun x36 => ?_)
                              refine G_iload_n (x := a1) (pc := 217) dX12_told_217 rfl ?_
                              refine G_bipush (pc := 218) dX12_told_218 ?_
                              refine G_isub (pc := 220) dX12_told_220 (fun x37 => ?_)
                              refine G_iald (pc := 221) dX12_told_221 (fun x38 => ?_)
                              refine G_i2l (pc := 222) dX12_told_222 ?_
                              exact G_lret (pc := 223) dX12_told_223
                            · refine G_ite (fun h13 => ?_) (fun h13 => ?_)
                              · refine G_tableIn (off := 136) (tgt := 172) (pc := 36) dX12_told_36 (by omega) (by rw [h13]; rfl) (by decide) ?_
                                refine G_aload_n (x := a0) (pc := 172) dX12_told_172 rfl ?_
                                refine G_getI (j := 19) (pc := 173) dX12_told_173 rfl z_CLX12 (by decide) z_wX12_227 (by decide) (fun x39 => ?_)
                                refine G_i2l (pc := 176) dX12_told_176 ?_
                                exact G_lret (pc := 177) dX12_told_177
                              · refine G_ite (fun h14 => ?_) (fun h14 => ?_)
                                · refine G_tableIn (off := 142) (tgt := 178) (pc := 36) dX12_told_36 (by omega) (by rw [h14]; rfl) (by decide) ?_
                                  refine G_aload_n (x := a0) (pc := 178) dX12_told_178 rfl ?_
                                  refine G_getI (j := 2) (pc := 179) dX12_told_179 rfl z_CLX12 (by decide) z_wX12_173 (by decide) (fun x40 => ?_)
                                  refine G_i2l (pc := 182) dX12_told_182 ?_
                                  exact G_lret (pc := 183) dX12_told_183
                                · refine G_ite (fun h15 => ?_) (fun h15 => ?_)
                                  · refine G_tableIn (off := 148) (tgt := 184) (pc := 36) dX12_told_36 (by omega) (by rw [h15]; rfl) (by decide) ?_
                                    refine G_aload_n (x := a0) (pc := 184) dX12_told_184 rfl ?_
                                    refine G_callVI (as := []) (st := []) (c := 12) (bc2 := 0) (bs2 := 0) (pc := 185) dX12_told_185 z_mX12_unfit z_vX12_unfit z_wX12_381 (gX12_unfit hst fu s6 a0) rfl rfl (by decide) rfl rfl ⟨by decide, by decide, by decide, by decide, Nat.le_of_ble_eq_true rfl⟩ rfl (fun x42 s41 => ?_)
                                    refine G_i2l (pc := 188) dX12_told_188 ?_
                                    exact G_lret (pc := 189) dX12_told_189
                                  · refine G_ite (fun h16 => ?_) (fun h16 => ?_)
                                    · refine G_tableIn (off := 154) (tgt := 190) (pc := 36) dX12_told_36 (by omega) (by rw [h16]; rfl) (by decide) ?_
                                      refine G_aload_n (x := a0) (pc := 190) dX12_told_190 rfl ?_
                                      refine G_getR (j := 9) (pc := 191) dX12_told_191 rfl z_CLX12 (by decide) z_wX12_20 (by decide) (fun x43 => ?_)
                                      refine G_iload_n (x := a1) (pc := 194) dX12_told_194 rfl ?_
                                      refine G_bipush (pc := 195) dX12_told_195 ?_
                                      refine G_isub (pc := 197) dX12_told_197 (fun x44 => ?_)
                                      refine G_iald (pc := 198) dX12_told_198 (fun x45 => ?_)
                                      refine G_i2l (pc := 199) dX12_told_199 ?_
                                      exact G_lret (pc := 200) dX12_told_200
                                    · refine G_ite (fun h17 => ?_) (fun h17 => ?_)
                                      · refine G_tableIn (off := 154) (tgt := 190) (pc := 36) dX12_told_36 (by omega) (by rw [h17]; rfl) (by decide) ?_
                                        refine G_aload_n (x := a0) (pc := 190) dX12_told_190 rfl ?_
                                        refine G_getR (j := 9) (pc := 191) dX12_told_191 rfl z_CLX12 (by decide) z_wX12_20 (by decide) (fun x46 => ?_)
                                        refine G_iload_n (x := a1) (pc := 194) dX12_told_194 rfl ?_
                                        refine G_bipush (pc := 195) dX12_told_195 ?_
                                        refine G_isub (pc := 197) dX12_told_197 (fun x47 => ?_)
                                        refine G_iald (pc := 198) dX12_told_198 (fun x48 => ?_)
                                        refine G_i2l (pc := 199) dX12_told_199 ?_
                                        exact G_lret (pc := 200) dX12_told_200
                                      · refine G_ite (fun h18 => ?_) (fun h18 => ?_)
                                        · refine G_tableIn (off := 165) (tgt := 201) (pc := 36) dX12_told_36 (by omega) (by rw [h18]; rfl) (by decide) ?_
                                          refine G_aload_n (x := a0) (pc := 201) dX12_told_201 rfl ?_
                                          refine G_getI (j := 38) (pc := 202) dX12_told_202 rfl z_CLX12 (by decide) z_wX12_311 (by decide) (fun x49 => ?_)
                                          refine G_i2l (pc := 205) dX12_told_205 ?_
                                          exact G_lret (pc := 206) dX12_told_206
                                        · refine G_ite (fun h19 => ?_) (fun h19 => ?_)
                                          · refine G_tableIn (off := 171) (tgt := 207) (pc := 36) dX12_told_36 (by omega) (by rw [h19]; rfl) (by decide) ?_
                                            refine G_aload_n (x := a0) (pc := 207) dX12_told_207 rfl ?_
                                            refine G_getI (j := 39) (pc := 208) dX12_told_208 rfl z_CLX12 (by decide) z_wX12_314 (by decide) (fun x50 => ?_)
                                            refine G_i2l (pc := 211) dX12_told_211 ?_
                                            exact G_lret (pc := 212) dX12_told_212
                                          · refine G_tableOut (tgt := 213) (pc := 36) dX12_told_36 (by omega) ?_
                                            refine G_aload_n (x := a0) (pc := 213) dX12_told_213 rfl ?_
                                            refine G_getR (j := 9) (pc := 214) dX12_told_214 rfl z_CLX12 (by decide) z_wX12_20 (by decide) (fun x51 => ?_)
                                            refine G_iload_n (x := a1) (pc := 217) dX12_told_217 rfl ?_
                                            refine G_bipush (pc := 218) dX12_told_218 ?_
                                            refine G_isub (pc := 220) dX12_told_220 (fun x52 => ?_)
                                            refine G_iald (pc := 221) dX12_told_221 (fun x53 => ?_)
                                            refine G_i2l (pc := 222) dX12_told_222 ?_
                                            exact G_lret (pc := 223) dX12_told_223
  · refine G_lconst (y := 0) (pc := 29) dX12_told_29 ?_
    exact G_lret (pc := 30) dX12_told_30
def fX12_told (fu : Nat) (s : z_M) (a0 : Int) (a1 : Int) : z_O := if z_ob a0 12 then z_let (z_up s a0 0 0) (fun s1 => z_bI (fX12_in fu s1 a1 0 19) (fun x3 s2 => if (x3 : Int) ≠ 0 then (fX12_told_J21 fu s2 a0 a1 a0 0) else (fX12_told_J21 fu s2 a0 a1 a0 1))) else none
theorem gX12_told {l : Launch} {K : z_K} (hst : l.stackTraces = false) (fu : Nat) (s : z_M) (a0 : Int) (a1 : Int) : z_D l K mX12_told 11 250 0 0 [vR a0, vI a1] s (fX12_told fu s a0 a1) := by
  refine z_D_of (lv := [vR a0, vI a1]) hst z_mX12_told rfl ?_ (Nat.le_of_ble_eq_true rfl) rfl
  unfold fX12_told
  refine G_aload_n (x := a0) (pc := 0) dX12_told_0 rfl ?_
  refine G_iconst (pc := 1) dX12_told_1 ?_
  refine G_putI (j := 0) (pc := 2) dX12_told_2 rfl z_CLX12 (by decide) z_wX12_170 rfl (by decide) (by decide) (fun s1 => ?_)
  refine G_aload_n (x := a0) (pc := 5) dX12_told_5 rfl ?_
  refine G_iload_n (x := a1) (pc := 6) dX12_told_6 rfl ?_
  refine G_iconst (pc := 7) dX12_told_7 ?_
  refine G_bipush (pc := 8) dX12_told_8 ?_
  refine G_callSI (as := [vI a1, vI 0, vI 19]) (st := [vR a0]) (bc2 := 0) (bs2 := 0) (pc := 10) dX12_told_10 z_mX12_in z_sX12_in z_wX12_245 (gX12_in hst fu s1 a1 0 19) rfl rfl ⟨by decide, by decide, by decide, by decide, Nat.le_of_ble_eq_true rfl⟩ rfl (fun x3 s2 => ?_)
  refine G_if_ne (tgt := 20) (pc := 13) dX12_told_13 ?_ ?_
  · refine G_iconst (pc := 20) dX12_told_20 ?_
    exact gX12_told_J21 hst fu s2 a0 a1 a0 0
  · refine G_iconst (pc := 16) dX12_told_16 ?_
    refine G_goto (tgt := 21) (pc := 17) dX12_told_17 ?_
    exact gX12_told_J21 hst fu s2 a0 a1 a0 1
def fX12_isUnit (fu : Nat) (s : z_M) (a0 : Int) (a1 : Int) : z_O := if z_ob a0 12 then z_let (s a0 20) (fun x1 => z_let (z_w (x1 - 1)) (fun x2 => z_bI (fX12_in fu s a1 0 x2) (fun x4 s3 => if z_bl x4 then some (vI x4, s3) else none))) else none
theorem gX12_isUnit {l : Launch} {K : z_K} (hst : l.stackTraces = false) (fu : Nat) (s : z_M) (a0 : Int) (a1 : Int) : z_D l K mX12_isUnit 1 22 0 0 [vR a0, vI a1] s (fX12_isUnit fu s a0 a1) := by
  refine z_D_of (lv := [vR a0, vI a1]) hst z_mX12_isUnit rfl ?_ (Nat.le_of_ble_eq_true rfl) rfl
  unfold fX12_isUnit
  refine G_iload_n (x := a1) (pc := 0) dX12_isUnit_0 rfl ?_
  refine G_iconst (pc := 1) dX12_isUnit_1 ?_
  refine G_aload_n (x := a0) (pc := 2) dX12_isUnit_2 rfl ?_
  refine G_getI (j := 20) (pc := 3) dX12_isUnit_3 rfl z_CLX12 (by decide) z_wX12_242 (by decide) (fun x1 => ?_)
  refine G_iconst (pc := 6) dX12_isUnit_6 ?_
  refine G_isub (pc := 7) dX12_isUnit_7 (fun x2 => ?_)
  refine G_callSI (as := [vI a1, vI 0, vI x2]) (st := []) (bc2 := 0) (bs2 := 0) (pc := 8) dX12_isUnit_8 z_mX12_in z_sX12_in z_wX12_245 (gX12_in hst fu s a1 0 x2) rfl rfl ⟨by decide, by decide, by decide, by decide, Nat.le_of_ble_eq_true rfl⟩ rfl (fun x4 s3 => ?_)
  exact G_zret (pc := 11) dX12_isUnit_11
def fX12_unit_J51 (fu : Nat) (s : z_M) : z_O := some (vI 0, s)
theorem gX12_unit_J51 {l : Launch} {K : z_K} (hst : l.stackTraces = false) (fu : Nat) (s : z_M) : G l K mX12_unit 11 250 0 0 51 [vU, vU, vU] [] s (fX12_unit_J51 fu s) := by
  unfold fX12_unit_J51
  refine G_iconst (pc := 51) dX12_unit_51 ?_
  exact G_iret (pc := 52) dX12_unit_52
def fX12_unit_J43 (fu : Nat) (s : z_M) (a0 : Int) (a1 : Int) (a2 : Int) (t0 : Int) (t1 : Int) : z_O := if z_ob t0 12 then z_bI (fX12_bad fu s t0 t1 2 1) (fun x9 s8 => if (x9 : Int) = 0 then (if z_ob a0 12 then z_bN (fX12_laysAll fu s8 a0) (fun s10 => if a2 = (0 : Int) then (if z_ob a0 12 then z_let (z_gr a0 21) (fun x11 => if z_ix x11 100 a1 then z_let (s10 x11 a1) (fun x12 => some (vI x12, s10)) else none) else none) else (if a2 = (1 : Int) then (if z_ob a0 12 then z_let (z_gr a0 22) (fun x13 => if z_ix x13 100 a1 then z_let (s10 x13 a1) (fun x14 => some (vI x14, s10)) else none) else none) else (if a2 = (2 : Int) then (if z_ob a0 12 then z_let (z_gr a0 23) (fun x15 => if z_ix x15 100 a1 then z_let (s10 x15 a1) (fun x16 => some (vI x16, s10)) else none) else none) else (if a2 = (3 : Int) then (if z_ob a0 12 then z_let (z_gr a0 52) (fun x17 => if z_ix x17 100 a1 then z_let (s10 x17 a1) (fun x18 => some (vI x18, s10)) else none) else none) else (if a2 = (4 : Int) then (if z_ob a0 12 then z_let (z_gr a0 48) (fun x19 => if z_ix x19 100 a1 then z_let (s10 x19 a1) (fun x20 => some (vI x20, s10)) else none) else none) else (if a2 = (5 : Int) then (if z_ob a0 12 then z_let (z_gr a0 49) (fun x21 => if z_ix x21 100 a1 then z_let (s10 x21 a1) (fun x22 => some (vI x22, s10)) else none) else none) else (if a2 = (6 : Int) then (if z_ob a0 12 then z_bI (fX12_group fu s10 a0 a1) (fun x24 s23 => some (vI x24, s23)) else none) else (if z_ob a0 12 then z_let (z_gr a0 51) (fun x25 => if z_ix x25 100 a1 then z_let (s10 x25 a1) (fun x26 => some (vI x26, s10)) else none) else none)))))))) else none) else (fX12_unit_J51 fu s8)) else none
theorem gX12_unit_J43 {l : Launch} {K : z_K} (hst : l.stackTraces = false) (fu : Nat) (s : z_M) (a0 : Int) (a1 : Int) (a2 : Int) (t0 : Int) (t1 : Int) : G l K mX12_unit 11 250 0 0 43 [vR a0, vI a1, vI a2] [vI t1, vR t0] s (fX12_unit_J43 fu s a0 a1 a2 t0 t1) := by
  unfold fX12_unit_J43
  refine G_iconst (pc := 43) dX12_unit_43 ?_
  refine G_iconst (pc := 44) dX12_unit_44 ?_
  refine G_callVI (as := [vI t1, vI 2, vI 1]) (st := []) (c := 12) (bc2 := 0) (bs2 := 0) (pc := 45) dX12_unit_45 z_mX12_bad z_vX12_bad z_wX12_249 (gX12_bad hst fu s t0 t1 2 1) rfl rfl (by decide) rfl rfl ⟨by decide, by decide, by decide, by decide, Nat.le_of_ble_eq_true rfl⟩ rfl (fun x9 s8 => ?_)
  refine G_if_eq (tgt := 53) (pc := 48) dX12_unit_48 ?_ ?_
  · refine G_aload_n (x := a0) (pc := 53) dX12_unit_53 rfl ?_
    refine G_callVN (as := []) (st := []) (c := 12) (bc2 := 0) (bs2 := 0) (pc := 54) dX12_unit_54 z_mX12_laysAll z_vX12_laysAll z_wX12_371 (gX12_laysAll hst fu s8 a0) rfl rfl (by decide) rfl rfl ⟨by decide, by decide, by decide, by decide, Nat.le_of_ble_eq_true rfl⟩ rfl (fun s10 => ?_)
    refine G_iload_n (x := a2) (pc := 57) dX12_unit_57 rfl ?_
    refine G_ite (fun h0 => ?_) (fun h0 => ?_)
    · refine G_tableIn (off := 42) (tgt := 100) (pc := 58) dX12_unit_58 (by omega) (by rw [h0]; rfl) (by decide) ?_
      refine G_aload_n (x := a0) (pc := 100) dX12_unit_100 rfl ?_
      refine G_getR (j := 21) (pc := 101) dX12_unit_101 rfl z_CLX12 (by decide) z_wX12_54 (by decide) (fun x11 => ?_)
      refine G_iload_n (x := a1) (pc := 104) dX12_unit_104 rfl ?_
      refine G_iald (pc := 105) dX12_unit_105 (fun x12 => ?_)
      exact G_iret (pc := 106) dX12_unit_106
    · refine G_ite (fun h1 => ?_) (fun h1 => ?_)
      · refine G_tableIn (off := 49) (tgt := 107) (pc := 58) dX12_unit_58 (by omega) (by rw [h1]; rfl) (by decide) ?_
        refine G_aload_n (x := a0) (pc := 107) dX12_unit_107 rfl ?_
        refine G_getR (j := 22) (pc := 108) dX12_unit_108 rfl z_CLX12 (by decide) z_wX12_57 (by decide) (fun x13 => ?_)
        refine G_iload_n (x := a1) (pc := 111) dX12_unit_111 rfl ?_
        refine G_iald (pc := 112) dX12_unit_112 (fun x14 => ?_)
        exact G_iret (pc := 113) dX12_unit_113
      · refine G_ite (fun h2 => ?_) (fun h2 => ?_)
        · refine G_tableIn (off := 56) (tgt := 114) (pc := 58) dX12_unit_58 (by omega) (by rw [h2]; rfl) (by decide) ?_
          refine G_aload_n (x := a0) (pc := 114) dX12_unit_114 rfl ?_
          refine G_getR (j := 23) (pc := 115) dX12_unit_115 rfl z_CLX12 (by decide) z_wX12_60 (by decide) (fun x15 => ?_)
          refine G_iload_n (x := a1) (pc := 118) dX12_unit_118 rfl ?_
          refine G_iald (pc := 119) dX12_unit_119 (fun x16 => ?_)
          exact G_iret (pc := 120) dX12_unit_120
        · refine G_ite (fun h3 => ?_) (fun h3 => ?_)
          · refine G_tableIn (off := 63) (tgt := 121) (pc := 58) dX12_unit_58 (by omega) (by rw [h3]; rfl) (by decide) ?_
            refine G_aload_n (x := a0) (pc := 121) dX12_unit_121 rfl ?_
            refine G_getR (j := 52) (pc := 122) dX12_unit_122 rfl z_CLX12 (by decide) z_wX12_131 (by decide) (fun x17 => ?_)
            refine G_iload_n (x := a1) (pc := 125) dX12_unit_125 rfl ?_
            refine G_iald (pc := 126) dX12_unit_126 (fun x18 => ?_)
            exact G_iret (pc := 127) dX12_unit_127
          · refine G_ite (fun h4 => ?_) (fun h4 => ?_)
            · refine G_tableIn (off := 70) (tgt := 128) (pc := 58) dX12_unit_58 (by omega) (by rw [h4]; rfl) (by decide) ?_
              refine G_aload_n (x := a0) (pc := 128) dX12_unit_128 rfl ?_
              refine G_getR (j := 48) (pc := 129) dX12_unit_129 rfl z_CLX12 (by decide) z_wX12_119 (by decide) (fun x19 => ?_)
              refine G_iload_n (x := a1) (pc := 132) dX12_unit_132 rfl ?_
              refine G_iald (pc := 133) dX12_unit_133 (fun x20 => ?_)
              exact G_iret (pc := 134) dX12_unit_134
            · refine G_ite (fun h5 => ?_) (fun h5 => ?_)
              · refine G_tableIn (off := 77) (tgt := 135) (pc := 58) dX12_unit_58 (by omega) (by rw [h5]; rfl) (by decide) ?_
                refine G_aload_n (x := a0) (pc := 135) dX12_unit_135 rfl ?_
                refine G_getR (j := 49) (pc := 136) dX12_unit_136 rfl z_CLX12 (by decide) z_wX12_122 (by decide) (fun x21 => ?_)
                refine G_iload_n (x := a1) (pc := 139) dX12_unit_139 rfl ?_
                refine G_iald (pc := 140) dX12_unit_140 (fun x22 => ?_)
                exact G_iret (pc := 141) dX12_unit_141
              · refine G_ite (fun h6 => ?_) (fun h6 => ?_)
                · refine G_tableIn (off := 84) (tgt := 142) (pc := 58) dX12_unit_58 (by omega) (by rw [h6]; rfl) (by decide) ?_
                  refine G_aload_n (x := a0) (pc := 142) dX12_unit_142 rfl ?_
                  refine G_iload_n (x := a1) (pc := 143) dX12_unit_143 rfl ?_
                  refine G_callVI (as := [vI a1]) (st := []) (c := 12) (bc2 := 0) (bs2 := 0) (pc := 144) dX12_unit_144 z_mX12_group z_vX12_group z_wX12_288 (gX12_group hst fu s10 a0 a1) rfl rfl (by decide) rfl rfl ⟨by decide, by decide, by decide, by decide, Nat.le_of_ble_eq_true rfl⟩ rfl (fun x24 s23 => ?_)
                  exact G_iret (pc := 147) dX12_unit_147
                · refine G_tableOut (tgt := 148) (pc := 58) dX12_unit_58 (by omega) ?_
                  refine G_aload_n (x := a0) (pc := 148) dX12_unit_148 rfl ?_
                  refine G_getR (j := 51) (pc := 149) dX12_unit_149 rfl z_CLX12 (by decide) z_wX12_128 (by decide) (fun x25 => ?_)
                  refine G_iload_n (x := a1) (pc := 152) dX12_unit_152 rfl ?_
                  refine G_iald (pc := 153) dX12_unit_153 (fun x26 => ?_)
                  exact G_iret (pc := 154) dX12_unit_154
  · refine G_fg (lv2 := [vU, vU, vU]) ⟨Or.inl rfl, Or.inl rfl, Or.inl rfl, trivial⟩ ?_
    exact gX12_unit_J51 hst fu s8
def fX12_unit_J19 (fu : Nat) (s : z_M) (a0 : Int) (a1 : Int) (a2 : Int) (t0 : Int) (t1 : Int) : z_O := if z_ob t0 12 then z_bI (fX12_bad fu s t0 t1 1 0) (fun x5 s4 => if (x5 : Int) ≠ 0 then (fX12_unit_J51 fu s4) else (z_bI (fX12_in fu s4 a2 0 7) (fun x7 s6 => if (x7 : Int) ≠ 0 then (fX12_unit_J43 fu s6 a0 a1 a2 a0 0) else (fX12_unit_J43 fu s6 a0 a1 a2 a0 1)))) else none
theorem gX12_unit_J19 {l : Launch} {K : z_K} (hst : l.stackTraces = false) (fu : Nat) (s : z_M) (a0 : Int) (a1 : Int) (a2 : Int) (t0 : Int) (t1 : Int) : G l K mX12_unit 11 250 0 0 19 [vR a0, vI a1, vI a2] [vI t1, vR t0] s (fX12_unit_J19 fu s a0 a1 a2 t0 t1) := by
  unfold fX12_unit_J19
  refine G_iconst (pc := 19) dX12_unit_19 ?_
  refine G_iconst (pc := 20) dX12_unit_20 ?_
  refine G_callVI (as := [vI t1, vI 1, vI 0]) (st := []) (c := 12) (bc2 := 0) (bs2 := 0) (pc := 21) dX12_unit_21 z_mX12_bad z_vX12_bad z_wX12_249 (gX12_bad hst fu s t0 t1 1 0) rfl rfl (by decide) rfl rfl ⟨by decide, by decide, by decide, by decide, Nat.le_of_ble_eq_true rfl⟩ rfl (fun x5 s4 => ?_)
  refine G_if_ne (tgt := 51) (pc := 24) dX12_unit_24 ?_ ?_
  · refine G_fg (lv2 := [vU, vU, vU]) ⟨Or.inl rfl, Or.inl rfl, Or.inl rfl, trivial⟩ ?_
    exact gX12_unit_J51 hst fu s4
  · refine G_aload_n (x := a0) (pc := 27) dX12_unit_27 rfl ?_
    refine G_iload_n (x := a2) (pc := 28) dX12_unit_28 rfl ?_
    refine G_iconst (pc := 29) dX12_unit_29 ?_
    refine G_bipush (pc := 30) dX12_unit_30 ?_
    refine G_callSI (as := [vI a2, vI 0, vI 7]) (st := [vR a0]) (bc2 := 0) (bs2 := 0) (pc := 32) dX12_unit_32 z_mX12_in z_sX12_in z_wX12_245 (gX12_in hst fu s4 a2 0 7) rfl rfl ⟨by decide, by decide, by decide, by decide, Nat.le_of_ble_eq_true rfl⟩ rfl (fun x7 s6 => ?_)
    refine G_if_ne (tgt := 42) (pc := 35) dX12_unit_35 ?_ ?_
    · refine G_iconst (pc := 42) dX12_unit_42 ?_
      exact gX12_unit_J43 hst fu s6 a0 a1 a2 a0 0
    · refine G_iconst (pc := 38) dX12_unit_38 ?_
      refine G_goto (tgt := 43) (pc := 39) dX12_unit_39 ?_
      exact gX12_unit_J43 hst fu s6 a0 a1 a2 a0 1
def fX12_unit (fu : Nat) (s : z_M) (a0 : Int) (a1 : Int) (a2 : Int) : z_O := if z_ob a0 12 then z_let (z_up s a0 0 0) (fun s1 => if z_ob a0 12 then z_bI (fX12_isUnit fu s1 a0 a1) (fun x3 s2 => if (x3 : Int) ≠ 0 then (fX12_unit_J19 fu s2 a0 a1 a2 a0 0) else (fX12_unit_J19 fu s2 a0 a1 a2 a0 1)) else none) else none
theorem gX12_unit {l : Launch} {K : z_K} (hst : l.stackTraces = false) (fu : Nat) (s : z_M) (a0 : Int) (a1 : Int) (a2 : Int) : z_D l K mX12_unit 11 250 0 0 [vR a0, vI a1, vI a2] s (fX12_unit fu s a0 a1 a2) := by
  refine z_D_of (lv := [vR a0, vI a1, vI a2]) hst z_mX12_unit rfl ?_ (Nat.le_of_ble_eq_true rfl) rfl
  unfold fX12_unit
  refine G_aload_n (x := a0) (pc := 0) dX12_unit_0 rfl ?_
  refine G_iconst (pc := 1) dX12_unit_1 ?_
  refine G_putI (j := 0) (pc := 2) dX12_unit_2 rfl z_CLX12 (by decide) z_wX12_170 rfl (by decide) (by decide) (fun s1 => ?_)
  refine G_aload_n (x := a0) (pc := 5) dX12_unit_5 rfl ?_
  refine G_aload_n (x := a0) (pc := 6) dX12_unit_6 rfl ?_
  refine G_iload_n (x := a1) (pc := 7) dX12_unit_7 rfl ?_
  refine G_callVI (as := [vI a1]) (st := [vR a0]) (c := 12) (bc2 := 0) (bs2 := 0) (pc := 8) dX12_unit_8 z_mX12_isUnit z_vX12_isUnit z_wX12_384 (gX12_isUnit hst fu s1 a0 a1) rfl rfl (by decide) rfl rfl ⟨by decide, by decide, by decide, by decide, Nat.le_of_ble_eq_true rfl⟩ rfl (fun x3 s2 => ?_)
  refine G_if_ne (tgt := 18) (pc := 11) dX12_unit_11 ?_ ?_
  · refine G_iconst (pc := 18) dX12_unit_18 ?_
    exact gX12_unit_J19 hst fu s2 a0 a1 a2 a0 0
  · refine G_iconst (pc := 14) dX12_unit_14 ?_
    refine G_goto (tgt := 19) (pc := 15) dX12_unit_15 ?_
    exact gX12_unit_J19 hst fu s2 a0 a1 a2 a0 1
def fX12_marksOf_J117 (fu : Nat) (s : z_M) (a2 : Int) (a3 : Int) (a4 : Int) (a5 : Int) (r : z_M → Int → Int → z_O) (k : z_M → Int → z_O) : z_O := z_let (z_w (a5 + 1)) (fun x16 => r s a3 x16)
theorem gX12_marksOf_J117 {l : Launch} {K : z_K} (hst : l.stackTraces = false) (fu : Nat) (s : z_M) (a2 : Int) (a3 : Int) (a4 : Int) (a5 : Int) (r : z_M → Int → Int → z_O) (k : z_M → Int → z_O) (hr : ∀ (s : z_M) (a3 : Int) (a5 : Int), G l K mX12_marksOf 0 0 0 0 46 [vU, vU, vI a2, vI a3, vR a4, vI a5, vU, vU] [] s (r s a3 a5)) (hk : ∀ (s : z_M) (a3 : Int), G l K mX12_marksOf 0 0 0 0 123 [vU, vU, vU, vI a3, vU, vU, vU, vU] [] s (k s a3)) : G l K mX12_marksOf 0 0 0 0 117 [vU, vU, vI a2, vI a3, vR a4, vI a5, vU, vU] [] s (fX12_marksOf_J117 fu s a2 a3 a4 a5 r k) := by
  unfold fX12_marksOf_J117
  refine G_iinc (x := a5) (g := fun x16 => [vU, vU, vI a2, vI a3, vR a4, vI x16, vU, vU]) (pc := 117) dX12_marksOf_117 rfl (fun _ => rfl) (fun x16 => ?_)
  refine G_goto (tgt := 46) (pc := 120) dX12_marksOf_120 ?_
  exact hr s a3 x16
def fX12_marksOf_L46 (fu : Nat) (a2 : Int) (a4 : Int) : Nat → z_M → Int → Int → (z_M → Int → z_O) → z_O
  | 0, _, _, _, _ => none
  | F + 1, s, a3, a5, k => if (2 : Int) ≤ a5 then (k s a3) else (z_let (z_shl 1 a5) (fun x13 => z_let (z_w (3 - x13)) (fun x14 => z_let (z_and a2 x13) (fun x15 => if (x15 : Int) = 0 then (fX12_marksOf_J117 fu s a2 a3 a4 a5 (fun w v3 v5 => fX12_marksOf_L46 fu a2 a4 F w v3 v5 k) k) else (z_let (z_w (10 * a5)) (fun x17 => if z_ix a4 100 x17 then z_let (s a4 x17) (fun x18 => if (x18 : Int) ≠ 0 then (z_let (z_xor x13 (-1)) (fun x19 => z_let (z_and a3 x19) (fun x20 => z_let (z_w (1 - a5)) (fun x21 => z_let (z_w (10 * x21)) (fun x22 => if z_ix a4 100 x22 then z_let (s a4 x22) (fun x23 => if (x23 : Int) ≠ 0 then (fX12_marksOf_J117 fu s a2 x20 a4 a5 (fun w v3 v5 => fX12_marksOf_L46 fu a2 a4 F w v3 v5 k) k) else (z_let (z_and a2 x14) (fun x24 => if (x24 : Int) ≠ 0 then (fX12_marksOf_J117 fu s a2 x20 a4 a5 (fun w v3 v5 => fX12_marksOf_L46 fu a2 a4 F w v3 v5 k) k) else (z_let (z_or x20 x14) (fun x25 => fX12_marksOf_J117 fu s a2 x25 a4 a5 (fun w v3 v5 => fX12_marksOf_L46 fu a2 a4 F w v3 v5 k) k))))) else none))))) else (fX12_marksOf_J117 fu s a2 a3 a4 a5 (fun w v3 v5 => fX12_marksOf_L46 fu a2 a4 F w v3 v5 k) k)) else none))))))
theorem gX12_marksOf_L46 {l : Launch} {K : z_K} (hst : l.stackTraces = false) (fu : Nat) (a2 : Int) (a4 : Int) (k : z_M → Int → z_O) (hk : ∀ (s : z_M) (a3 : Int), G l K mX12_marksOf 0 0 0 0 123 [vU, vU, vU, vI a3, vU, vU, vU, vU] [] s (k s a3)) : ∀ (F : Nat) (s : z_M) (a3 : Int) (a5 : Int), G l K mX12_marksOf 0 0 0 0 46 [vU, vU, vI a2, vI a3, vR a4, vI a5, vU, vU] [] s (fX12_marksOf_L46 fu a2 a4 F s a3 a5 k) := by
  intro F
  induction F with
  | zero => exact fun s a3 a5 h => absurd rfl h
  | succ F ih =>
    intro s a3 a5
    rw [fX12_marksOf_L46]
    refine G_iload (x := a5) (pc := 46) dX12_marksOf_46 rfl ?_
    refine G_iconst (pc := 48) dX12_marksOf_48 ?_
    refine G_icmp_ge (tgt := 123) (pc := 49) dX12_marksOf_49 ?_ ?_
    · refine G_fg (lv2 := [vU, vU, vU, vI a3, vU, vU, vU, vU]) ⟨Or.inl rfl, Or.inl rfl, Or.inl rfl, Or.inr rfl, Or.inl rfl, Or.inl rfl, Or.inl rfl, Or.inl rfl, trivial⟩ ?_
      exact hk s a3
    · refine G_iconst (pc := 52) dX12_marksOf_52 ?_
      refine G_iload (x := a5) (pc := 53) dX12_marksOf_53 rfl ?_
      refine G_ishl (pc := 55) dX12_marksOf_55 (fun x13 => ?_)
      refine G_istore (lv' := [vU, vU, vI a2, vI a3, vR a4, vI a5, vI x13, vU]) (pc := 56) dX12_marksOf_56 rfl ?_
      refine G_iconst (pc := 58) dX12_marksOf_58 ?_
      refine G_iload (x := x13) (pc := 59) dX12_marksOf_59 rfl ?_
      refine G_isub (pc := 61) dX12_marksOf_61 (fun x14 => ?_)
      refine G_istore (lv' := [vU, vU, vI a2, vI a3, vR a4, vI a5, vI x13, vI x14]) (pc := 62) dX12_marksOf_62 rfl ?_
      refine G_iload_n (x := a2) (pc := 64) dX12_marksOf_64 rfl ?_
      refine G_iload (x := x13) (pc := 65) dX12_marksOf_65 rfl ?_
      refine G_iand (pc := 67) dX12_marksOf_67 (fun x15 => ?_)
      refine G_if_eq (tgt := 117) (pc := 68) dX12_marksOf_68 ?_ ?_
      · refine G_fg (lv2 := [vU, vU, vI a2, vI a3, vR a4, vI a5, vU, vU]) ⟨Or.inl rfl, Or.inl rfl, Or.inr rfl, Or.inr rfl, Or.inr rfl, Or.inr rfl, Or.inl rfl, Or.inl rfl, trivial⟩ ?_
        exact gX12_marksOf_J117 hst fu s a2 a3 a4 a5 _ _ (fun w v3 v5 => ih w v3 v5) hk
      · refine G_aload (x := a4) (pc := 71) dX12_marksOf_71 rfl ?_
        refine G_bipush (pc := 73) dX12_marksOf_73 ?_
        refine G_iload (x := a5) (pc := 75) dX12_marksOf_75 rfl ?_
        refine G_imul (pc := 77) dX12_marksOf_77 (fun x17 => ?_)
        refine G_iald (pc := 78) dX12_marksOf_78 (fun x18 => ?_)
        refine G_if_ne (tgt := 85) (pc := 79) dX12_marksOf_79 ?_ ?_
        · refine G_iload_n (x := a3) (pc := 85) dX12_marksOf_85 rfl ?_
          refine G_iload (x := x13) (pc := 86) dX12_marksOf_86 rfl ?_
          refine G_iconst (pc := 88) dX12_marksOf_88 ?_
          refine G_ixor (pc := 89) dX12_marksOf_89 (fun x19 => ?_)
          refine G_iand (pc := 90) dX12_marksOf_90 (fun x20 => ?_)
          refine G_istore_n (lv' := [vU, vU, vI a2, vI x20, vR a4, vI a5, vI x13, vI x14]) (pc := 91) dX12_marksOf_91 rfl ?_
          refine G_aload (x := a4) (pc := 92) dX12_marksOf_92 rfl ?_
          refine G_bipush (pc := 94) dX12_marksOf_94 ?_
          refine G_iconst (pc := 96) dX12_marksOf_96 ?_
          refine G_iload (x := a5) (pc := 97) dX12_marksOf_97 rfl ?_
          refine G_isub (pc := 99) dX12_marksOf_99 (fun x21 => ?_)
          refine G_imul (pc := 100) dX12_marksOf_100 (fun x22 => ?_)
          refine G_iald (pc := 101) dX12_marksOf_101 (fun x23 => ?_)
          refine G_if_ne (tgt := 117) (pc := 102) dX12_marksOf_102 ?_ ?_
          · refine G_fg (lv2 := [vU, vU, vI a2, vI x20, vR a4, vI a5, vU, vU]) ⟨Or.inl rfl, Or.inl rfl, Or.inr rfl, Or.inr rfl, Or.inr rfl, Or.inr rfl, Or.inl rfl, Or.inl rfl, trivial⟩ ?_
            exact gX12_marksOf_J117 hst fu s a2 x20 a4 a5 _ _ (fun w v3 v5 => ih w v3 v5) hk
          · refine G_iload_n (x := a2) (pc := 105) dX12_marksOf_105 rfl ?_
            refine G_iload (x := x14) (pc := 106) dX12_marksOf_106 rfl ?_
            refine G_iand (pc := 108) dX12_marksOf_108 (fun x24 => ?_)
            refine G_if_ne (tgt := 117) (pc := 109) dX12_marksOf_109 ?_ ?_
            · refine G_fg (lv2 := [vU, vU, vI a2, vI x20, vR a4, vI a5, vU, vU]) ⟨Or.inl rfl, Or.inl rfl, Or.inr rfl, Or.inr rfl, Or.inr rfl, Or.inr rfl, Or.inl rfl, Or.inl rfl, trivial⟩ ?_
              exact gX12_marksOf_J117 hst fu s a2 x20 a4 a5 _ _ (fun w v3 v5 => ih w v3 v5) hk
            · refine G_iload_n (x := x20) (pc := 112) dX12_marksOf_112 rfl ?_
              refine G_iload (x := x14) (pc := 113) dX12_marksOf_113 rfl ?_
              refine G_ior (pc := 115) dX12_marksOf_115 (fun x25 => ?_)
              refine G_istore_n (lv' := [vU, vU, vI a2, vI x25, vR a4, vI a5, vI x13, vI x14]) (pc := 116) dX12_marksOf_116 rfl ?_
              refine G_fg (lv2 := [vU, vU, vI a2, vI x25, vR a4, vI a5, vU, vU]) ⟨Or.inl rfl, Or.inl rfl, Or.inr rfl, Or.inr rfl, Or.inr rfl, Or.inr rfl, Or.inl rfl, Or.inl rfl, trivial⟩ ?_
              exact gX12_marksOf_J117 hst fu s a2 x25 a4 a5 _ _ (fun w v3 v5 => ih w v3 v5) hk
        · refine G_goto (tgt := 117) (pc := 82) dX12_marksOf_82 ?_
          refine G_fg (lv2 := [vU, vU, vI a2, vI a3, vR a4, vI a5, vU, vU]) ⟨Or.inl rfl, Or.inl rfl, Or.inr rfl, Or.inr rfl, Or.inr rfl, Or.inr rfl, Or.inl rfl, Or.inl rfl, trivial⟩ ?_
          exact gX12_marksOf_J117 hst fu s a2 a3 a4 a5 _ _ (fun w v3 v5 => ih w v3 v5) hk
def fX12_marksOf (fu : Nat) (s : z_M) (a0 : Int) (a1 : Int) : z_O := if z_ob a0 12 then z_let (z_gr a0 16) (fun x1 => if z_ix x1 103 0 then z_let (z_gr x1 0) (fun x2 => if z_ix x2 100 a1 then z_let (s x2 a1) (fun x3 => if z_ob a0 12 then z_let (z_gr a0 14) (fun x4 => if z_ix x4 103 0 then z_let (z_gr x4 0) (fun x5 => if z_ix x5 100 a1 then z_let (s x5 a1) (fun x6 => if (x6 : Int) = 7 then (if z_ob a0 12 then z_let (z_gr a0 18) (fun x7 => if z_ix x7 105 0 then z_let (z_gr x7 0) (fun x8 => if z_ob a0 12 then z_let (z_gr a0 15) (fun x9 => if z_ix x9 103 0 then z_let (z_gr x9 0) (fun x10 => if z_ix x10 100 a1 then z_let (s x10 a1) (fun x11 => if z_ix x8 103 x11 then z_let (z_gr x8 x11) (fun x12 => fX12_marksOf_L46 fu x3 x12 fu s x3 0 (fun s26 x27 => some (vI x27, s26))) else none) else none) else none) else none) else none) else none) else (some (vI x3, s))) else none) else none) else none) else none) else none) else none
theorem gX12_marksOf {l : Launch} {K : z_K} (hst : l.stackTraces = false) (fu : Nat) (s : z_M) (a0 : Int) (a1 : Int) : z_D l K mX12_marksOf 0 0 0 0 [vR a0, vI a1] s (fX12_marksOf fu s a0 a1) := by
  refine z_D_of (lv := [vR a0, vI a1, vU, vU, vU, vU, vU, vU]) hst z_mX12_marksOf rfl ?_ (Nat.le_of_ble_eq_true rfl) rfl
  unfold fX12_marksOf
  refine G_aload_n (x := a0) (pc := 0) dX12_marksOf_0 rfl ?_
  refine G_getR (j := 16) (pc := 1) dX12_marksOf_1 rfl z_CLX12 (by decide) z_wX12_43 (by decide) (fun x1 => ?_)
  refine G_iconst (pc := 4) dX12_marksOf_4 ?_
  refine G_aald103 (pc := 5) dX12_marksOf_5 (fun x2 => ?_)
  refine G_iload_n (x := a1) (pc := 6) dX12_marksOf_6 rfl ?_
  refine G_iald (pc := 7) dX12_marksOf_7 (fun x3 => ?_)
  refine G_istore_n (lv' := [vR a0, vI a1, vI x3, vU, vU, vU, vU, vU]) (pc := 8) dX12_marksOf_8 rfl ?_
  refine G_iload_n (x := x3) (pc := 9) dX12_marksOf_9 rfl ?_
  refine G_istore_n (lv' := [vR a0, vI a1, vI x3, vI x3, vU, vU, vU, vU]) (pc := 10) dX12_marksOf_10 rfl ?_
  refine G_aload_n (x := a0) (pc := 11) dX12_marksOf_11 rfl ?_
  refine G_getR (j := 14) (pc := 12) dX12_marksOf_12 rfl z_CLX12 (by decide) z_wX12_37 (by decide) (fun x4 => ?_)
  refine G_iconst (pc := 15) dX12_marksOf_15 ?_
  refine G_aald103 (pc := 16) dX12_marksOf_16 (fun x5 => ?_)
  refine G_iload_n (x := a1) (pc := 17) dX12_marksOf_17 rfl ?_
  refine G_iald (pc := 18) dX12_marksOf_18 (fun x6 => ?_)
  refine G_bipush (pc := 19) dX12_marksOf_19 ?_
  refine G_icmp_eq (tgt := 26) (pc := 21) dX12_marksOf_21 ?_ ?_
  · refine G_aload_n (x := a0) (pc := 26) dX12_marksOf_26 rfl ?_
    refine G_getR (j := 18) (pc := 27) dX12_marksOf_27 rfl z_CLX12 (by decide) z_wX12_51 (by decide) (fun x7 => ?_)
    refine G_iconst (pc := 30) dX12_marksOf_30 ?_
    refine G_aald105 (pc := 31) dX12_marksOf_31 (fun x8 => ?_)
    refine G_aload_n (x := a0) (pc := 32) dX12_marksOf_32 rfl ?_
    refine G_getR (j := 15) (pc := 33) dX12_marksOf_33 rfl z_CLX12 (by decide) z_wX12_40 (by decide) (fun x9 => ?_)
    refine G_iconst (pc := 36) dX12_marksOf_36 ?_
    refine G_aald103 (pc := 37) dX12_marksOf_37 (fun x10 => ?_)
    refine G_iload_n (x := a1) (pc := 38) dX12_marksOf_38 rfl ?_
    refine G_iald (pc := 39) dX12_marksOf_39 (fun x11 => ?_)
    refine G_aald103 (pc := 40) dX12_marksOf_40 (fun x12 => ?_)
    refine G_astore (lv' := [vR a0, vI a1, vI x3, vI x3, vR x12, vU, vU, vU]) (pc := 41) dX12_marksOf_41 rfl ?_
    refine G_iconst (pc := 43) dX12_marksOf_43 ?_
    refine G_istore (lv' := [vR a0, vI a1, vI x3, vI x3, vR x12, vI 0, vU, vU]) (pc := 44) dX12_marksOf_44 rfl ?_
    refine G_fg (lv2 := [vU, vU, vI x3, vI x3, vR x12, vI 0, vU, vU]) ⟨Or.inl rfl, Or.inl rfl, Or.inr rfl, Or.inr rfl, Or.inr rfl, Or.inr rfl, Or.inl rfl, Or.inl rfl, trivial⟩ ?_
    refine gX12_marksOf_L46 hst fu x3 x12 _ (fun s26 x27 => ?_) fu s x3 0
    refine G_iload_n (x := x27) (pc := 123) dX12_marksOf_123 rfl ?_
    exact G_iret (pc := 124) dX12_marksOf_124
  · refine G_iload_n (x := x3) (pc := 24) dX12_marksOf_24 rfl ?_
    exact G_iret (pc := 25) dX12_marksOf_25
def fX12_isTurned_J57 (fu : Nat) (s : z_M) (t0 : Int) : z_O := if z_bl t0 then some (vI t0, s) else none
theorem gX12_isTurned_J57 {l : Launch} {K : z_K} (hst : l.stackTraces = false) (fu : Nat) (s : z_M) (t0 : Int) : G l K mX12_isTurned 1 21 0 0 57 [vU, vU, vU] [vI t0] s (fX12_isTurned_J57 fu s t0) := by
  unfold fX12_isTurned_J57
  exact G_zret (pc := 57) dX12_isTurned_57
def fX12_isTurned_J56 (fu : Nat) (s : z_M) : z_O := fX12_isTurned_J57 fu s 0
theorem gX12_isTurned_J56 {l : Launch} {K : z_K} (hst : l.stackTraces = false) (fu : Nat) (s : z_M) : G l K mX12_isTurned 1 21 0 0 56 [vU, vU, vU] [] s (fX12_isTurned_J56 fu s) := by
  unfold fX12_isTurned_J56
  refine G_iconst (pc := 56) dX12_isTurned_56 ?_
  exact gX12_isTurned_J57 hst fu s 0
def fX12_isTurned_J52 (fu : Nat) (s : z_M) : z_O := fX12_isTurned_J57 fu s 1
theorem gX12_isTurned_J52 {l : Launch} {K : z_K} (hst : l.stackTraces = false) (fu : Nat) (s : z_M) : G l K mX12_isTurned 1 21 0 0 52 [vU, vU, vU] [] s (fX12_isTurned_J52 fu s) := by
  unfold fX12_isTurned_J52
  refine G_iconst (pc := 52) dX12_isTurned_52 ?_
  refine G_goto (tgt := 57) (pc := 53) dX12_isTurned_53 ?_
  exact gX12_isTurned_J57 hst fu s 1
def fX12_isTurned (fu : Nat) (s : z_M) (a0 : Int) (a1 : Int) : z_O := if z_ob a0 12 then z_let (z_gr a0 14) (fun x1 => if z_ix x1 103 0 then z_let (z_gr x1 0) (fun x2 => if z_ix x2 100 a1 then z_let (s x2 a1) (fun x3 => if z_ob a0 12 then z_let (z_gr a0 9) (fun x4 => if z_ix x4 100 5 then z_let (s x4 5) (fun x5 => if (x5 : Int) ≠ 1 then (fX12_isTurned_J56 fu s) else (if (x3 : Int) = 1 then (fX12_isTurned_J52 fu s) else (if (x3 : Int) = 4 then (fX12_isTurned_J52 fu s) else (if (x3 : Int) = 5 then (fX12_isTurned_J52 fu s) else (if (x3 : Int) ≠ 2 then (fX12_isTurned_J56 fu s) else (if z_ob a0 12 then z_let (z_gr a0 24) (fun x6 => if z_ix x6 100 a1 then z_let (s x6 a1) (fun x7 => if z_ob a0 12 then z_bI (fX12_isAcross fu s a0 x7) (fun x9 s8 => if (x9 : Int) ≠ 0 then (fX12_isTurned_J56 fu s8) else (fX12_isTurned_J52 fu s8)) else none) else none) else none)))))) else none) else none) else none) else none) else none
theorem gX12_isTurned {l : Launch} {K : z_K} (hst : l.stackTraces = false) (fu : Nat) (s : z_M) (a0 : Int) (a1 : Int) : z_D l K mX12_isTurned 1 21 0 0 [vR a0, vI a1] s (fX12_isTurned fu s a0 a1) := by
  refine z_D_of (lv := [vR a0, vI a1, vU]) hst z_mX12_isTurned rfl ?_ (Nat.le_of_ble_eq_true rfl) rfl
  unfold fX12_isTurned
  refine G_aload_n (x := a0) (pc := 0) dX12_isTurned_0 rfl ?_
  refine G_getR (j := 14) (pc := 1) dX12_isTurned_1 rfl z_CLX12 (by decide) z_wX12_37 (by decide) (fun x1 => ?_)
  refine G_iconst (pc := 4) dX12_isTurned_4 ?_
  refine G_aald103 (pc := 5) dX12_isTurned_5 (fun x2 => ?_)
  refine G_iload_n (x := a1) (pc := 6) dX12_isTurned_6 rfl ?_
  refine G_iald (pc := 7) dX12_isTurned_7 (fun x3 => ?_)
  refine G_istore_n (lv' := [vR a0, vI a1, vI x3]) (pc := 8) dX12_isTurned_8 rfl ?_
  refine G_aload_n (x := a0) (pc := 9) dX12_isTurned_9 rfl ?_
  refine G_getR (j := 9) (pc := 10) dX12_isTurned_10 rfl z_CLX12 (by decide) z_wX12_20 (by decide) (fun x4 => ?_)
  refine G_iconst (pc := 13) dX12_isTurned_13 ?_
  refine G_iald (pc := 14) dX12_isTurned_14 (fun x5 => ?_)
  refine G_iconst (pc := 15) dX12_isTurned_15 ?_
  refine G_icmp_ne (tgt := 56) (pc := 16) dX12_isTurned_16 ?_ ?_
  · refine G_fg (lv2 := [vU, vU, vU]) ⟨Or.inl rfl, Or.inl rfl, Or.inl rfl, trivial⟩ ?_
    exact gX12_isTurned_J56 hst fu s
  · refine G_iload_n (x := x3) (pc := 19) dX12_isTurned_19 rfl ?_
    refine G_iconst (pc := 20) dX12_isTurned_20 ?_
    refine G_icmp_eq (tgt := 52) (pc := 21) dX12_isTurned_21 ?_ ?_
    · refine G_fg (lv2 := [vU, vU, vU]) ⟨Or.inl rfl, Or.inl rfl, Or.inl rfl, trivial⟩ ?_
      exact gX12_isTurned_J52 hst fu s
    · refine G_iload_n (x := x3) (pc := 24) dX12_isTurned_24 rfl ?_
      refine G_iconst (pc := 25) dX12_isTurned_25 ?_
      refine G_icmp_eq (tgt := 52) (pc := 26) dX12_isTurned_26 ?_ ?_
      · refine G_fg (lv2 := [vU, vU, vU]) ⟨Or.inl rfl, Or.inl rfl, Or.inl rfl, trivial⟩ ?_
        exact gX12_isTurned_J52 hst fu s
      · refine G_iload_n (x := x3) (pc := 29) dX12_isTurned_29 rfl ?_
        refine G_iconst (pc := 30) dX12_isTurned_30 ?_
        refine G_icmp_eq (tgt := 52) (pc := 31) dX12_isTurned_31 ?_ ?_
        · refine G_fg (lv2 := [vU, vU, vU]) ⟨Or.inl rfl, Or.inl rfl, Or.inl rfl, trivial⟩ ?_
          exact gX12_isTurned_J52 hst fu s
        · refine G_iload_n (x := x3) (pc := 34) dX12_isTurned_34 rfl ?_
          refine G_iconst (pc := 35) dX12_isTurned_35 ?_
          refine G_icmp_ne (tgt := 56) (pc := 36) dX12_isTurned_36 ?_ ?_
          · refine G_fg (lv2 := [vU, vU, vU]) ⟨Or.inl rfl, Or.inl rfl, Or.inl rfl, trivial⟩ ?_
            exact gX12_isTurned_J56 hst fu s
          · refine G_aload_n (x := a0) (pc := 39) dX12_isTurned_39 rfl ?_
            refine G_aload_n (x := a0) (pc := 40) dX12_isTurned_40 rfl ?_
            refine G_getR (j := 24) (pc := 41) dX12_isTurned_41 rfl z_CLX12 (by decide) z_wX12_63 (by decide) (fun x6 => ?_)
            refine G_iload_n (x := a1) (pc := 44) dX12_isTurned_44 rfl ?_
            refine G_iald (pc := 45) dX12_isTurned_45 (fun x7 => ?_)
            refine G_callVI (as := [vI x7]) (st := []) (c := 12) (bc2 := 0) (bs2 := 0) (pc := 46) dX12_isTurned_46 z_mX12_isAcross z_vX12_isAcross z_wX12_273 (gX12_isAcross hst fu s a0 x7) rfl rfl (by decide) rfl rfl ⟨by decide, by decide, by decide, by decide, Nat.le_of_ble_eq_true rfl⟩ rfl (fun x9 s8 => ?_)
            refine G_if_ne (tgt := 56) (pc := 49) dX12_isTurned_49 ?_ ?_
            · refine G_fg (lv2 := [vU, vU, vU]) ⟨Or.inl rfl, Or.inl rfl, Or.inl rfl, trivial⟩ ?_
              exact gX12_isTurned_J56 hst fu s8
            · refine G_fg (lv2 := [vU, vU, vU]) ⟨Or.inl rfl, Or.inl rfl, Or.inl rfl, trivial⟩ ?_
              exact gX12_isTurned_J52 hst fu s8
def fX12_sign_J61 (fu : Nat) (s : z_M) : z_O := some (vI 0, s)
theorem gX12_sign_J61 {l : Launch} {K : z_K} (hst : l.stackTraces = false) (fu : Nat) (s : z_M) : G l K mX12_sign 11 250 0 0 61 [vU, vU, vU] [] s (fX12_sign_J61 fu s) := by
  unfold fX12_sign_J61
  refine G_iconst (pc := 61) dX12_sign_61 ?_
  exact G_iret (pc := 62) dX12_sign_62
def fX12_sign_J152 (fu : Nat) (s : z_M) (t0 : Int) : z_O := some (vI t0, s)
theorem gX12_sign_J152 {l : Launch} {K : z_K} (hst : l.stackTraces = false) (fu : Nat) (s : z_M) (t0 : Int) : G l K mX12_sign 11 250 0 0 152 [vU, vU, vU] [vI t0] s (fX12_sign_J152 fu s t0) := by
  unfold fX12_sign_J152
  exact G_iret (pc := 152) dX12_sign_152
def fX12_sign_J53 (fu : Nat) (s : z_M) (a0 : Int) (a1 : Int) (a2 : Int) (t0 : Int) (t1 : Int) : z_O := if z_ob t0 12 then z_bI (fX12_bad fu s t0 t1 2 1) (fun x13 s12 => if (x13 : Int) = 0 then (if z_ob a0 12 then z_bN (fX12_laysAll fu s12 a0) (fun s14 => if a2 = (0 : Int) then (if z_ob a0 12 then z_let (z_gr a0 13) (fun x15 => if z_ix x15 103 0 then z_let (z_gr x15 0) (fun x16 => if z_ix x16 100 a1 then z_let (s14 x16 a1) (fun x17 => some (vI x17, s14)) else none) else none) else none) else (if a2 = (1 : Int) then (if z_ob a0 12 then z_let (z_gr a0 24) (fun x18 => if z_ix x18 100 a1 then z_let (s14 x18 a1) (fun x19 => some (vI x19, s14)) else none) else none) else (if a2 = (2 : Int) then (if z_ob a0 12 then z_let (z_gr a0 48) (fun x20 => if z_ob a0 12 then z_let (z_gr a0 24) (fun x21 => if z_ix x21 100 a1 then z_let (s14 x21 a1) (fun x22 => if z_ix x20 100 x22 then z_let (s14 x20 x22) (fun x23 => some (vI x23, s14)) else none) else none) else none) else none) else (if a2 = (3 : Int) then (if z_ob a0 12 then z_let (z_gr a0 50) (fun x24 => if z_ix x24 100 a1 then z_let (s14 x24 a1) (fun x25 => some (vI x25, s14)) else none) else none) else (if a2 = (4 : Int) then (if z_ob a0 12 then z_bI (fX12_isTurned fu s14 a0 a1) (fun x27 s26 => if (x27 : Int) = 0 then (fX12_sign_J152 fu s26 0) else (fX12_sign_J152 fu s26 1)) else none) else (if z_ob a0 12 then z_bI (fX12_marksOf fu s14 a0 a1) (fun x29 s28 => z_let (z_w (a2 - 5)) (fun x30 => z_let (z_shr x29 x30) (fun x31 => z_let (z_and x31 1) (fun x32 => some (vI x32, s28))))) else none)))))) else none) else (fX12_sign_J61 fu s12)) else none
theorem gX12_sign_J53 {l : Launch} {K : z_K} (hst : l.stackTraces = false) (fu : Nat) (s : z_M) (a0 : Int) (a1 : Int) (a2 : Int) (t0 : Int) (t1 : Int) : G l K mX12_sign 11 250 0 0 53 [vR a0, vI a1, vI a2] [vI t1, vR t0] s (fX12_sign_J53 fu s a0 a1 a2 t0 t1) := by
  unfold fX12_sign_J53
  refine G_iconst (pc := 53) dX12_sign_53 ?_
  refine G_iconst (pc := 54) dX12_sign_54 ?_
  refine G_callVI (as := [vI t1, vI 2, vI 1]) (st := []) (c := 12) (bc2 := 0) (bs2 := 0) (pc := 55) dX12_sign_55 z_mX12_bad z_vX12_bad z_wX12_249 (gX12_bad hst fu s t0 t1 2 1) rfl rfl (by decide) rfl rfl ⟨by decide, by decide, by decide, by decide, Nat.le_of_ble_eq_true rfl⟩ rfl (fun x13 s12 => ?_)
  refine G_if_eq (tgt := 63) (pc := 58) dX12_sign_58 ?_ ?_
  · refine G_aload_n (x := a0) (pc := 63) dX12_sign_63 rfl ?_
    refine G_callVN (as := []) (st := []) (c := 12) (bc2 := 0) (bs2 := 0) (pc := 64) dX12_sign_64 z_mX12_laysAll z_vX12_laysAll z_wX12_371 (gX12_laysAll hst fu s12 a0) rfl rfl (by decide) rfl rfl ⟨by decide, by decide, by decide, by decide, Nat.le_of_ble_eq_true rfl⟩ rfl (fun s14 => ?_)
    refine G_iload_n (x := a2) (pc := 67) dX12_sign_67 rfl ?_
    refine G_ite (fun h0 => ?_) (fun h0 => ?_)
    · refine G_tableIn (off := 36) (tgt := 104) (pc := 68) dX12_sign_68 (by omega) (by rw [h0]; rfl) (by decide) ?_
      refine G_aload_n (x := a0) (pc := 104) dX12_sign_104 rfl ?_
      refine G_getR (j := 13) (pc := 105) dX12_sign_105 rfl z_CLX12 (by decide) z_wX12_34 (by decide) (fun x15 => ?_)
      refine G_iconst (pc := 108) dX12_sign_108 ?_
      refine G_aald103 (pc := 109) dX12_sign_109 (fun x16 => ?_)
      refine G_iload_n (x := a1) (pc := 110) dX12_sign_110 rfl ?_
      refine G_iald (pc := 111) dX12_sign_111 (fun x17 => ?_)
      exact G_iret (pc := 112) dX12_sign_112
    · refine G_ite (fun h1 => ?_) (fun h1 => ?_)
      · refine G_tableIn (off := 45) (tgt := 113) (pc := 68) dX12_sign_68 (by omega) (by rw [h1]; rfl) (by decide) ?_
        refine G_aload_n (x := a0) (pc := 113) dX12_sign_113 rfl ?_
        refine G_getR (j := 24) (pc := 114) dX12_sign_114 rfl z_CLX12 (by decide) z_wX12_63 (by decide) (fun x18 => ?_)
        refine G_iload_n (x := a1) (pc := 117) dX12_sign_117 rfl ?_
        refine G_iald (pc := 118) dX12_sign_118 (fun x19 => ?_)
        exact G_iret (pc := 119) dX12_sign_119
      · refine G_ite (fun h2 => ?_) (fun h2 => ?_)
        · refine G_tableIn (off := 52) (tgt := 120) (pc := 68) dX12_sign_68 (by omega) (by rw [h2]; rfl) (by decide) ?_
          refine G_aload_n (x := a0) (pc := 120) dX12_sign_120 rfl ?_
          refine G_getR (j := 48) (pc := 121) dX12_sign_121 rfl z_CLX12 (by decide) z_wX12_119 (by decide) (fun x20 => ?_)
          refine G_aload_n (x := a0) (pc := 124) dX12_sign_124 rfl ?_
          refine G_getR (j := 24) (pc := 125) dX12_sign_125 rfl z_CLX12 (by decide) z_wX12_63 (by decide) (fun x21 => ?_)
          refine G_iload_n (x := a1) (pc := 128) dX12_sign_128 rfl ?_
          refine G_iald (pc := 129) dX12_sign_129 (fun x22 => ?_)
          refine G_iald (pc := 130) dX12_sign_130 (fun x23 => ?_)
          exact G_iret (pc := 131) dX12_sign_131
        · refine G_ite (fun h3 => ?_) (fun h3 => ?_)
          · refine G_tableIn (off := 64) (tgt := 132) (pc := 68) dX12_sign_68 (by omega) (by rw [h3]; rfl) (by decide) ?_
            refine G_aload_n (x := a0) (pc := 132) dX12_sign_132 rfl ?_
            refine G_getR (j := 50) (pc := 133) dX12_sign_133 rfl z_CLX12 (by decide) z_wX12_125 (by decide) (fun x24 => ?_)
            refine G_iload_n (x := a1) (pc := 136) dX12_sign_136 rfl ?_
            refine G_iald (pc := 137) dX12_sign_137 (fun x25 => ?_)
            exact G_iret (pc := 138) dX12_sign_138
          · refine G_ite (fun h4 => ?_) (fun h4 => ?_)
            · refine G_tableIn (off := 71) (tgt := 139) (pc := 68) dX12_sign_68 (by omega) (by rw [h4]; rfl) (by decide) ?_
              refine G_aload_n (x := a0) (pc := 139) dX12_sign_139 rfl ?_
              refine G_iload_n (x := a1) (pc := 140) dX12_sign_140 rfl ?_
              refine G_callVI (as := [vI a1]) (st := []) (c := 12) (bc2 := 0) (bs2 := 0) (pc := 141) dX12_sign_141 z_mX12_isTurned z_vX12_isTurned z_wX12_387 (gX12_isTurned hst fu s14 a0 a1) rfl rfl (by decide) rfl rfl ⟨by decide, by decide, by decide, by decide, Nat.le_of_ble_eq_true rfl⟩ rfl (fun x27 s26 => ?_)
              refine G_if_eq (tgt := 151) (pc := 144) dX12_sign_144 ?_ ?_
              · refine G_iconst (pc := 151) dX12_sign_151 ?_
                refine G_fg (lv2 := [vU, vU, vU]) ⟨Or.inl rfl, Or.inl rfl, Or.inl rfl, trivial⟩ ?_
                exact gX12_sign_J152 hst fu s26 0
              · refine G_iconst (pc := 147) dX12_sign_147 ?_
                refine G_goto (tgt := 152) (pc := 148) dX12_sign_148 ?_
                refine G_fg (lv2 := [vU, vU, vU]) ⟨Or.inl rfl, Or.inl rfl, Or.inl rfl, trivial⟩ ?_
                exact gX12_sign_J152 hst fu s26 1
            · refine G_tableOut (tgt := 153) (pc := 68) dX12_sign_68 (by omega) ?_
              refine G_aload_n (x := a0) (pc := 153) dX12_sign_153 rfl ?_
              refine G_iload_n (x := a1) (pc := 154) dX12_sign_154 rfl ?_
              refine G_callVI (as := [vI a1]) (st := []) (c := 12) (bc2 := 0) (bs2 := 0) (pc := 155) dX12_sign_155 z_mX12_marksOf z_vX12_marksOf z_wX12_390 (gX12_marksOf hst fu s14 a0 a1) rfl rfl (by decide) rfl rfl ⟨by decide, by decide, by decide, by decide, Nat.le_of_ble_eq_true rfl⟩ rfl (fun x29 s28 => ?_)
              refine G_iload_n (x := a2) (pc := 158) dX12_sign_158 rfl ?_
              refine G_iconst (pc := 159) dX12_sign_159 ?_
              refine G_isub (pc := 160) dX12_sign_160 (fun x30 => ?_)
              refine G_ishr (pc := 161) dX12_sign_161 (fun x31 => ?_)
              refine G_iconst (pc := 162) dX12_sign_162 ?_
              refine G_iand (pc := 163) dX12_sign_163 (fun x32 => ?_)
              exact G_iret (pc := 164) dX12_sign_164
  · refine G_fg (lv2 := [vU, vU, vU]) ⟨Or.inl rfl, Or.inl rfl, Or.inl rfl, trivial⟩ ?_
    exact gX12_sign_J61 hst fu s12
def fX12_sign_J29 (fu : Nat) (s : z_M) (a0 : Int) (a1 : Int) (a2 : Int) (t0 : Int) (t1 : Int) : z_O := if z_ob t0 12 then z_bI (fX12_bad fu s t0 t1 1 0) (fun x9 s8 => if (x9 : Int) ≠ 0 then (fX12_sign_J61 fu s8) else (z_bI (fX12_in fu s8 a2 0 6) (fun x11 s10 => if (x11 : Int) ≠ 0 then (fX12_sign_J53 fu s10 a0 a1 a2 a0 0) else (fX12_sign_J53 fu s10 a0 a1 a2 a0 1)))) else none
theorem gX12_sign_J29 {l : Launch} {K : z_K} (hst : l.stackTraces = false) (fu : Nat) (s : z_M) (a0 : Int) (a1 : Int) (a2 : Int) (t0 : Int) (t1 : Int) : G l K mX12_sign 11 250 0 0 29 [vR a0, vI a1, vI a2] [vI t1, vR t0] s (fX12_sign_J29 fu s a0 a1 a2 t0 t1) := by
  unfold fX12_sign_J29
  refine G_iconst (pc := 29) dX12_sign_29 ?_
  refine G_iconst (pc := 30) dX12_sign_30 ?_
  refine G_callVI (as := [vI t1, vI 1, vI 0]) (st := []) (c := 12) (bc2 := 0) (bs2 := 0) (pc := 31) dX12_sign_31 z_mX12_bad z_vX12_bad z_wX12_249 (gX12_bad hst fu s t0 t1 1 0) rfl rfl (by decide) rfl rfl ⟨by decide, by decide, by decide, by decide, Nat.le_of_ble_eq_true rfl⟩ rfl (fun x9 s8 => ?_)
  refine G_if_ne (tgt := 61) (pc := 34) dX12_sign_34 ?_ ?_
  · refine G_fg (lv2 := [vU, vU, vU]) ⟨Or.inl rfl, Or.inl rfl, Or.inl rfl, trivial⟩ ?_
    exact gX12_sign_J61 hst fu s8
  · refine G_aload_n (x := a0) (pc := 37) dX12_sign_37 rfl ?_
    refine G_iload_n (x := a2) (pc := 38) dX12_sign_38 rfl ?_
    refine G_iconst (pc := 39) dX12_sign_39 ?_
    refine G_bipush (pc := 40) dX12_sign_40 ?_
    refine G_callSI (as := [vI a2, vI 0, vI 6]) (st := [vR a0]) (bc2 := 0) (bs2 := 0) (pc := 42) dX12_sign_42 z_mX12_in z_sX12_in z_wX12_245 (gX12_in hst fu s8 a2 0 6) rfl rfl ⟨by decide, by decide, by decide, by decide, Nat.le_of_ble_eq_true rfl⟩ rfl (fun x11 s10 => ?_)
    refine G_if_ne (tgt := 52) (pc := 45) dX12_sign_45 ?_ ?_
    · refine G_iconst (pc := 52) dX12_sign_52 ?_
      exact gX12_sign_J53 hst fu s10 a0 a1 a2 a0 0
    · refine G_iconst (pc := 48) dX12_sign_48 ?_
      refine G_goto (tgt := 53) (pc := 49) dX12_sign_49 ?_
      exact gX12_sign_J53 hst fu s10 a0 a1 a2 a0 1
def fX12_sign (fu : Nat) (s : z_M) (a0 : Int) (a1 : Int) (a2 : Int) : z_O := if z_ob a0 12 then z_let (z_up s a0 0 0) (fun s1 => if z_ob a0 12 then z_let (z_gr a0 12) (fun x2 => if z_ix x2 103 0 then z_let (z_gr x2 0) (fun x3 => if z_ix x3 100 0 then z_let (s1 x3 0) (fun x4 => z_let (z_w (x4 - 1)) (fun x5 => z_bI (fX12_in fu s1 a1 0 x5) (fun x7 s6 => if (x7 : Int) ≠ 0 then (fX12_sign_J29 fu s6 a0 a1 a2 a0 0) else (fX12_sign_J29 fu s6 a0 a1 a2 a0 1)))) else none) else none) else none) else none
theorem gX12_sign {l : Launch} {K : z_K} (hst : l.stackTraces = false) (fu : Nat) (s : z_M) (a0 : Int) (a1 : Int) (a2 : Int) : z_D l K mX12_sign 11 250 0 0 [vR a0, vI a1, vI a2] s (fX12_sign fu s a0 a1 a2) := by
  refine z_D_of (lv := [vR a0, vI a1, vI a2]) hst z_mX12_sign rfl ?_ (Nat.le_of_ble_eq_true rfl) rfl
  unfold fX12_sign
  refine G_aload_n (x := a0) (pc := 0) dX12_sign_0 rfl ?_
  refine G_iconst (pc := 1) dX12_sign_1 ?_
  refine G_putI (j := 0) (pc := 2) dX12_sign_2 rfl z_CLX12 (by decide) z_wX12_170 rfl (by decide) (by decide) (fun s1 => ?_)
  refine G_aload_n (x := a0) (pc := 5) dX12_sign_5 rfl ?_
  refine G_iload_n (x := a1) (pc := 6) dX12_sign_6 rfl ?_
  refine G_iconst (pc := 7) dX12_sign_7 ?_
  refine G_aload_n (x := a0) (pc := 8) dX12_sign_8 rfl ?_
  refine G_getR (j := 12) (pc := 9) dX12_sign_9 rfl z_CLX12 (by decide) z_wX12_31 (by decide) (fun x2 => ?_)
  refine G_iconst (pc := 12) dX12_sign_12 ?_
  refine G_aald103 (pc := 13) dX12_sign_13 (fun x3 => ?_)
  refine G_iconst (pc := 14) dX12_sign_14 ?_
  refine G_iald (pc := 15) dX12_sign_15 (fun x4 => ?_)
  refine G_iconst (pc := 16) dX12_sign_16 ?_
  refine G_isub (pc := 17) dX12_sign_17 (fun x5 => ?_)
  refine G_callSI (as := [vI a1, vI 0, vI x5]) (st := [vR a0]) (bc2 := 0) (bs2 := 0) (pc := 18) dX12_sign_18 z_mX12_in z_sX12_in z_wX12_245 (gX12_in hst fu s1 a1 0 x5) rfl rfl ⟨by decide, by decide, by decide, by decide, Nat.le_of_ble_eq_true rfl⟩ rfl (fun x7 s6 => ?_)
  refine G_if_ne (tgt := 28) (pc := 21) dX12_sign_21 ?_ ?_
  · refine G_iconst (pc := 28) dX12_sign_28 ?_
    exact gX12_sign_J29 hst fu s6 a0 a1 a2 a0 0
  · refine G_iconst (pc := 24) dX12_sign_24 ?_
    refine G_goto (tgt := 29) (pc := 25) dX12_sign_25 ?_
    exact gX12_sign_J29 hst fu s6 a0 a1 a2 a0 1
def fX12_marks_L34 (fu : Nat) (a0 : Int) (a1 : Int) : Nat → z_M → Int → Int → (z_M → Int → z_O) → z_O
  | 0, _, _, _, _ => none
  | F + 1, s, a2, a3, k => if z_ob a0 12 then z_let (z_gr a0 12) (fun x6 => if z_ix x6 103 0 then z_let (z_gr x6 0) (fun x7 => if z_ix x7 100 0 then z_let (s x7 0) (fun x8 => if (x8 : Int) ≤ a3 then (k s a2) else (if z_ob a0 12 then z_bI (fX12_marksOf fu s a0 a3) (fun x10 s9 => z_let (z_shr x10 a1) (fun x11 => z_let (z_and x11 1) (fun x12 => z_let (z_w (a2 + x12)) (fun x13 => z_let (z_w (a3 + 1)) (fun x14 => fX12_marks_L34 fu a0 a1 F s9 x13 x14 k))))) else none)) else none) else none) else none
theorem gX12_marks_L34 {l : Launch} {K : z_K} (hst : l.stackTraces = false) (fu : Nat) (a0 : Int) (a1 : Int) (k : z_M → Int → z_O) (hk : ∀ (s : z_M) (a2 : Int), G l K mX12_marks 1 27 0 0 64 [vU, vU, vI a2, vU] [] s (k s a2)) : ∀ (F : Nat) (s : z_M) (a2 : Int) (a3 : Int), G l K mX12_marks 1 27 0 0 34 [vR a0, vI a1, vI a2, vI a3] [] s (fX12_marks_L34 fu a0 a1 F s a2 a3 k) := by
  intro F
  induction F with
  | zero => exact fun s a2 a3 h => absurd rfl h
  | succ F ih =>
    intro s a2 a3
    rw [fX12_marks_L34]
    refine G_iload_n (x := a3) (pc := 34) dX12_marks_34 rfl ?_
    refine G_aload_n (x := a0) (pc := 35) dX12_marks_35 rfl ?_
    refine G_getR (j := 12) (pc := 36) dX12_marks_36 rfl z_CLX12 (by decide) z_wX12_31 (by decide) (fun x6 => ?_)
    refine G_iconst (pc := 39) dX12_marks_39 ?_
    refine G_aald103 (pc := 40) dX12_marks_40 (fun x7 => ?_)
    refine G_iconst (pc := 41) dX12_marks_41 ?_
    refine G_iald (pc := 42) dX12_marks_42 (fun x8 => ?_)
    refine G_icmp_ge (tgt := 64) (pc := 43) dX12_marks_43 ?_ ?_
    · refine G_fg (lv2 := [vU, vU, vI a2, vU]) ⟨Or.inl rfl, Or.inl rfl, Or.inr rfl, Or.inl rfl, trivial⟩ ?_
      exact hk s a2
    · refine G_iload_n (x := a2) (pc := 46) dX12_marks_46 rfl ?_
      refine G_aload_n (x := a0) (pc := 47) dX12_marks_47 rfl ?_
      refine G_iload_n (x := a3) (pc := 48) dX12_marks_48 rfl ?_
      refine G_callVI (as := [vI a3]) (st := [vI a2]) (c := 12) (bc2 := 0) (bs2 := 0) (pc := 49) dX12_marks_49 z_mX12_marksOf z_vX12_marksOf z_wX12_390 (gX12_marksOf hst fu s a0 a3) rfl rfl (by decide) rfl rfl ⟨by decide, by decide, by decide, by decide, Nat.le_of_ble_eq_true rfl⟩ rfl (fun x10 s9 => ?_)
      refine G_iload_n (x := a1) (pc := 52) dX12_marks_52 rfl ?_
      refine G_ishr (pc := 53) dX12_marks_53 (fun x11 => ?_)
      refine G_iconst (pc := 54) dX12_marks_54 ?_
      refine G_iand (pc := 55) dX12_marks_55 (fun x12 => ?_)
      refine G_iadd (pc := 56) dX12_marks_56 (fun x13 => ?_)
      refine G_istore_n (lv' := [vR a0, vI a1, vI x13, vI a3]) (pc := 57) dX12_marks_57 rfl ?_
      refine G_iinc (x := a3) (g := fun x14 => [vR a0, vI a1, vI x13, vI x14]) (pc := 58) dX12_marks_58 rfl (fun _ => rfl) (fun x14 => ?_)
      refine G_goto (tgt := 34) (pc := 61) dX12_marks_61 ?_
      exact ih s9 x13 x14
def fX12_marks_J20 (fu : Nat) (s : z_M) (a0 : Int) (a1 : Int) (t0 : Int) (t1 : Int) : z_O := if z_ob t0 12 then z_bI (fX12_bad fu s t0 t1 1 1) (fun x5 s4 => if (x5 : Int) = 0 then (fX12_marks_L34 fu a0 a1 fu s4 0 0 (fun s15 x16 => some (vI x16, s15))) else (some (vI 0, s4))) else none
theorem gX12_marks_J20 {l : Launch} {K : z_K} (hst : l.stackTraces = false) (fu : Nat) (s : z_M) (a0 : Int) (a1 : Int) (t0 : Int) (t1 : Int) : G l K mX12_marks 1 27 0 0 20 [vR a0, vI a1, vU, vU] [vI t1, vR t0] s (fX12_marks_J20 fu s a0 a1 t0 t1) := by
  unfold fX12_marks_J20
  refine G_iconst (pc := 20) dX12_marks_20 ?_
  refine G_iconst (pc := 21) dX12_marks_21 ?_
  refine G_callVI (as := [vI t1, vI 1, vI 1]) (st := []) (c := 12) (bc2 := 0) (bs2 := 0) (pc := 22) dX12_marks_22 z_mX12_bad z_vX12_bad z_wX12_249 (gX12_bad hst fu s t0 t1 1 1) rfl rfl (by decide) rfl rfl ⟨by decide, by decide, by decide, by decide, Nat.le_of_ble_eq_true rfl⟩ rfl (fun x5 s4 => ?_)
  refine G_if_eq (tgt := 30) (pc := 25) dX12_marks_25 ?_ ?_
  · refine G_iconst (pc := 30) dX12_marks_30 ?_
    refine G_istore_n (lv' := [vR a0, vI a1, vI 0, vU]) (pc := 31) dX12_marks_31 rfl ?_
    refine G_iconst (pc := 32) dX12_marks_32 ?_
    refine G_istore_n (lv' := [vR a0, vI a1, vI 0, vI 0]) (pc := 33) dX12_marks_33 rfl ?_
    refine gX12_marks_L34 hst fu a0 a1 _ (fun s15 x16 => ?_) fu s4 0 0
    refine G_iload_n (x := x16) (pc := 64) dX12_marks_64 rfl ?_
    exact G_iret (pc := 65) dX12_marks_65
  · refine G_iconst (pc := 28) dX12_marks_28 ?_
    exact G_iret (pc := 29) dX12_marks_29
def fX12_marks (fu : Nat) (s : z_M) (a0 : Int) (a1 : Int) : z_O := if z_ob a0 12 then z_let (z_up s a0 0 0) (fun s1 => z_bI (fX12_in fu s1 a1 0 1) (fun x3 s2 => if (x3 : Int) ≠ 0 then (fX12_marks_J20 fu s2 a0 a1 a0 0) else (fX12_marks_J20 fu s2 a0 a1 a0 1))) else none
theorem gX12_marks {l : Launch} {K : z_K} (hst : l.stackTraces = false) (fu : Nat) (s : z_M) (a0 : Int) (a1 : Int) : z_D l K mX12_marks 1 27 0 0 [vR a0, vI a1] s (fX12_marks fu s a0 a1) := by
  refine z_D_of (lv := [vR a0, vI a1, vU, vU]) hst z_mX12_marks rfl ?_ (Nat.le_of_ble_eq_true rfl) rfl
  unfold fX12_marks
  refine G_aload_n (x := a0) (pc := 0) dX12_marks_0 rfl ?_
  refine G_iconst (pc := 1) dX12_marks_1 ?_
  refine G_putI (j := 0) (pc := 2) dX12_marks_2 rfl z_CLX12 (by decide) z_wX12_170 rfl (by decide) (by decide) (fun s1 => ?_)
  refine G_aload_n (x := a0) (pc := 5) dX12_marks_5 rfl ?_
  refine G_iload_n (x := a1) (pc := 6) dX12_marks_6 rfl ?_
  refine G_iconst (pc := 7) dX12_marks_7 ?_
  refine G_iconst (pc := 8) dX12_marks_8 ?_
  refine G_callSI (as := [vI a1, vI 0, vI 1]) (st := [vR a0]) (bc2 := 0) (bs2 := 0) (pc := 9) dX12_marks_9 z_mX12_in z_sX12_in z_wX12_245 (gX12_in hst fu s1 a1 0 1) rfl rfl ⟨by decide, by decide, by decide, by decide, Nat.le_of_ble_eq_true rfl⟩ rfl (fun x3 s2 => ?_)
  refine G_if_ne (tgt := 19) (pc := 12) dX12_marks_12 ?_ ?_
  · refine G_iconst (pc := 19) dX12_marks_19 ?_
    exact gX12_marks_J20 hst fu s2 a0 a1 a0 0
  · refine G_iconst (pc := 15) dX12_marks_15 ?_
    refine G_goto (tgt := 20) (pc := 16) dX12_marks_16 ?_
    exact gX12_marks_J20 hst fu s2 a0 a1 a0 1
def fX12_line_J61 (fu : Nat) (s : z_M) : z_O := some (vI 0, s)
theorem gX12_line_J61 {l : Launch} {K : z_K} (hst : l.stackTraces = false) (fu : Nat) (s : z_M) : G l K mX12_line 11 250 0 0 61 [vU, vU, vU] [] s (fX12_line_J61 fu s) := by
  unfold fX12_line_J61
  refine G_iconst (pc := 61) dX12_line_61 ?_
  exact G_iret (pc := 62) dX12_line_62
def fX12_line_J53 (fu : Nat) (s : z_M) (a0 : Int) (a1 : Int) (a2 : Int) (t0 : Int) (t1 : Int) : z_O := if z_ob t0 12 then z_bI (fX12_bad fu s t0 t1 2 1) (fun x12 s11 => if (x12 : Int) = 0 then (if a2 = (0 : Int) then (if z_ob a0 12 then z_let (z_gr a0 45) (fun x13 => if z_ix x13 100 a1 then z_let (s11 x13 a1) (fun x14 => some (vI x14, s11)) else none) else none) else (if a2 = (1 : Int) then (if z_ob a0 12 then z_let (z_gr a0 45) (fun x15 => z_let (z_w (a1 + 1)) (fun x16 => if z_ix x15 100 x16 then z_let (s11 x15 x16) (fun x17 => if z_ob a0 12 then z_let (z_gr a0 45) (fun x18 => if z_ix x18 100 a1 then z_let (s11 x18 a1) (fun x19 => z_let (z_w (x17 - x19)) (fun x20 => some (vI x20, s11))) else none) else none) else none)) else none) else (if a2 = (2 : Int) then (if z_ob a0 12 then z_let (z_gr a0 53) (fun x21 => if z_ix x21 100 a1 then z_let (s11 x21 a1) (fun x22 => some (vI x22, s11)) else none) else none) else (if a2 = (3 : Int) then (if z_ob a0 12 then z_let (z_gr a0 9) (fun x23 => if z_ix x23 100 0 then z_let (s11 x23 0) (fun x24 => if z_ob a0 12 then z_let (z_gr a0 53) (fun x25 => if z_ix x25 100 a1 then z_let (s11 x25 a1) (fun x26 => z_let (z_w (x24 - x26)) (fun x27 => some (vI x27, s11))) else none) else none) else none) else none) else (if a2 = (4 : Int) then (if z_ob a0 12 then z_let (z_gr a0 54) (fun x28 => if z_ix x28 100 a1 then z_let (s11 x28 a1) (fun x29 => some (vI x29, s11)) else none) else none) else (if a2 = (5 : Int) then (if z_ob a0 12 then z_let (z_gr a0 55) (fun x30 => if z_ix x30 100 a1 then z_let (s11 x30 a1) (fun x31 => some (vI x31, s11)) else none) else none) else (if a2 = (6 : Int) then (if z_ob a0 12 then z_let (z_gr a0 56) (fun x32 => if z_ix x32 100 a1 then z_let (s11 x32 a1) (fun x33 => some (vI x33, s11)) else none) else none) else (if z_ob a0 12 then z_let (z_gr a0 57) (fun x34 => if z_ix x34 100 a1 then z_let (s11 x34 a1) (fun x35 => some (vI x35, s11)) else none) else none)))))))) else (fX12_line_J61 fu s11)) else none
theorem gX12_line_J53 {l : Launch} {K : z_K} (hst : l.stackTraces = false) (fu : Nat) (s : z_M) (a0 : Int) (a1 : Int) (a2 : Int) (t0 : Int) (t1 : Int) : G l K mX12_line 11 250 0 0 53 [vR a0, vI a1, vI a2] [vI t1, vR t0] s (fX12_line_J53 fu s a0 a1 a2 t0 t1) := by
  unfold fX12_line_J53
  refine G_iconst (pc := 53) dX12_line_53 ?_
  refine G_iconst (pc := 54) dX12_line_54 ?_
  refine G_callVI (as := [vI t1, vI 2, vI 1]) (st := []) (c := 12) (bc2 := 0) (bs2 := 0) (pc := 55) dX12_line_55 z_mX12_bad z_vX12_bad z_wX12_249 (gX12_bad hst fu s t0 t1 2 1) rfl rfl (by decide) rfl rfl ⟨by decide, by decide, by decide, by decide, Nat.le_of_ble_eq_true rfl⟩ rfl (fun x12 s11 => ?_)
  refine G_if_eq (tgt := 63) (pc := 58) dX12_line_58 ?_ ?_
  · refine G_iload_n (x := a2) (pc := 63) dX12_line_63 rfl ?_
    refine G_ite (fun h0 => ?_) (fun h0 => ?_)
    · refine G_tableIn (off := 44) (tgt := 108) (pc := 64) dX12_line_64 (by omega) (by rw [h0]; rfl) (by decide) ?_
      refine G_aload_n (x := a0) (pc := 108) dX12_line_108 rfl ?_
      refine G_getR (j := 45) (pc := 109) dX12_line_109 rfl z_CLX12 (by decide) z_wX12_109 (by decide) (fun x13 => ?_)
      refine G_iload_n (x := a1) (pc := 112) dX12_line_112 rfl ?_
      refine G_iald (pc := 113) dX12_line_113 (fun x14 => ?_)
      exact G_iret (pc := 114) dX12_line_114
    · refine G_ite (fun h1 => ?_) (fun h1 => ?_)
      · refine G_tableIn (off := 51) (tgt := 115) (pc := 64) dX12_line_64 (by omega) (by rw [h1]; rfl) (by decide) ?_
        refine G_aload_n (x := a0) (pc := 115) dX12_line_115 rfl ?_
        refine G_getR (j := 45) (pc := 116) dX12_line_116 rfl z_CLX12 (by decide) z_wX12_109 (by decide) (fun x15 => ?_)
        refine G_iload_n (x := a1) (pc := 119) dX12_line_119 rfl ?_
        refine G_iconst (pc := 120) dX12_line_120 ?_
        refine G_iadd (pc := 121) dX12_line_121 (fun x16 => ?_)
        refine G_iald (pc := 122) dX12_line_122 (fun x17 => ?_)
        refine G_aload_n (x := a0) (pc := 123) dX12_line_123 rfl ?_
        refine G_getR (j := 45) (pc := 124) dX12_line_124 rfl z_CLX12 (by decide) z_wX12_109 (by decide) (fun x18 => ?_)
        refine G_iload_n (x := a1) (pc := 127) dX12_line_127 rfl ?_
        refine G_iald (pc := 128) dX12_line_128 (fun x19 => ?_)
        refine G_isub (pc := 129) dX12_line_129 (fun x20 => ?_)
        exact G_iret (pc := 130) dX12_line_130
      · refine G_ite (fun h2 => ?_) (fun h2 => ?_)
        · refine G_tableIn (off := 67) (tgt := 131) (pc := 64) dX12_line_64 (by omega) (by rw [h2]; rfl) (by decide) ?_
          refine G_aload_n (x := a0) (pc := 131) dX12_line_131 rfl ?_
          refine G_getR (j := 53) (pc := 132) dX12_line_132 rfl z_CLX12 (by decide) z_wX12_134 (by decide) (fun x21 => ?_)
          refine G_iload_n (x := a1) (pc := 135) dX12_line_135 rfl ?_
          refine G_iald (pc := 136) dX12_line_136 (fun x22 => ?_)
          exact G_iret (pc := 137) dX12_line_137
        · refine G_ite (fun h3 => ?_) (fun h3 => ?_)
          · refine G_tableIn (off := 74) (tgt := 138) (pc := 64) dX12_line_64 (by omega) (by rw [h3]; rfl) (by decide) ?_
            refine G_aload_n (x := a0) (pc := 138) dX12_line_138 rfl ?_
            refine G_getR (j := 9) (pc := 139) dX12_line_139 rfl z_CLX12 (by decide) z_wX12_20 (by decide) (fun x23 => ?_)
            refine G_iconst (pc := 142) dX12_line_142 ?_
            refine G_iald (pc := 143) dX12_line_143 (fun x24 => ?_)
            refine G_aload_n (x := a0) (pc := 144) dX12_line_144 rfl ?_
            refine G_getR (j := 53) (pc := 145) dX12_line_145 rfl z_CLX12 (by decide) z_wX12_134 (by decide) (fun x25 => ?_)
            refine G_iload_n (x := a1) (pc := 148) dX12_line_148 rfl ?_
            refine G_iald (pc := 149) dX12_line_149 (fun x26 => ?_)
            refine G_isub (pc := 150) dX12_line_150 (fun x27 => ?_)
            exact G_iret (pc := 151) dX12_line_151
          · refine G_ite (fun h4 => ?_) (fun h4 => ?_)
            · refine G_tableIn (off := 88) (tgt := 152) (pc := 64) dX12_line_64 (by omega) (by rw [h4]; rfl) (by decide) ?_
              refine G_aload_n (x := a0) (pc := 152) dX12_line_152 rfl ?_
              refine G_getR (j := 54) (pc := 153) dX12_line_153 rfl z_CLX12 (by decide) z_wX12_137 (by decide) (fun x28 => ?_)
              refine G_iload_n (x := a1) (pc := 156) dX12_line_156 rfl ?_
              refine G_iald (pc := 157) dX12_line_157 (fun x29 => ?_)
              exact G_iret (pc := 158) dX12_line_158
            · refine G_ite (fun h5 => ?_) (fun h5 => ?_)
              · refine G_tableIn (off := 95) (tgt := 159) (pc := 64) dX12_line_64 (by omega) (by rw [h5]; rfl) (by decide) ?_
                refine G_aload_n (x := a0) (pc := 159) dX12_line_159 rfl ?_
                refine G_getR (j := 55) (pc := 160) dX12_line_160 rfl z_CLX12 (by decide) z_wX12_140 (by decide) (fun x30 => ?_)
                refine G_iload_n (x := a1) (pc := 163) dX12_line_163 rfl ?_
                refine G_iald (pc := 164) dX12_line_164 (fun x31 => ?_)
                exact G_iret (pc := 165) dX12_line_165
              · refine G_ite (fun h6 => ?_) (fun h6 => ?_)
                · refine G_tableIn (off := 102) (tgt := 166) (pc := 64) dX12_line_64 (by omega) (by rw [h6]; rfl) (by decide) ?_
                  refine G_aload_n (x := a0) (pc := 166) dX12_line_166 rfl ?_
                  refine G_getR (j := 56) (pc := 167) dX12_line_167 rfl z_CLX12 (by decide) z_wX12_143 (by decide) (fun x32 => ?_)
                  refine G_iload_n (x := a1) (pc := 170) dX12_line_170 rfl ?_
                  refine G_iald (pc := 171) dX12_line_171 (fun x33 => ?_)
                  exact G_iret (pc := 172) dX12_line_172
                · refine G_tableOut (tgt := 173) (pc := 64) dX12_line_64 (by omega) ?_
                  refine G_aload_n (x := a0) (pc := 173) dX12_line_173 rfl ?_
                  refine G_getR (j := 57) (pc := 174) dX12_line_174 rfl z_CLX12 (by decide) z_wX12_146 (by decide) (fun x34 => ?_)
                  refine G_iload_n (x := a1) (pc := 177) dX12_line_177 rfl ?_
                  refine G_iald (pc := 178) dX12_line_178 (fun x35 => ?_)
                  exact G_iret (pc := 179) dX12_line_179
  · refine G_fg (lv2 := [vU, vU, vU]) ⟨Or.inl rfl, Or.inl rfl, Or.inl rfl, trivial⟩ ?_
    exact gX12_line_J61 hst fu s11
def fX12_line_J29 (fu : Nat) (s : z_M) (a0 : Int) (a1 : Int) (a2 : Int) (t0 : Int) (t1 : Int) : z_O := if z_ob t0 12 then z_bI (fX12_bad fu s t0 t1 1 0) (fun x8 s7 => if (x8 : Int) ≠ 0 then (fX12_line_J61 fu s7) else (z_bI (fX12_in fu s7 a2 0 7) (fun x10 s9 => if (x10 : Int) ≠ 0 then (fX12_line_J53 fu s9 a0 a1 a2 a0 0) else (fX12_line_J53 fu s9 a0 a1 a2 a0 1)))) else none
theorem gX12_line_J29 {l : Launch} {K : z_K} (hst : l.stackTraces = false) (fu : Nat) (s : z_M) (a0 : Int) (a1 : Int) (a2 : Int) (t0 : Int) (t1 : Int) : G l K mX12_line 11 250 0 0 29 [vR a0, vI a1, vI a2] [vI t1, vR t0] s (fX12_line_J29 fu s a0 a1 a2 t0 t1) := by
  unfold fX12_line_J29
  refine G_iconst (pc := 29) dX12_line_29 ?_
  refine G_iconst (pc := 30) dX12_line_30 ?_
  refine G_callVI (as := [vI t1, vI 1, vI 0]) (st := []) (c := 12) (bc2 := 0) (bs2 := 0) (pc := 31) dX12_line_31 z_mX12_bad z_vX12_bad z_wX12_249 (gX12_bad hst fu s t0 t1 1 0) rfl rfl (by decide) rfl rfl ⟨by decide, by decide, by decide, by decide, Nat.le_of_ble_eq_true rfl⟩ rfl (fun x8 s7 => ?_)
  refine G_if_ne (tgt := 61) (pc := 34) dX12_line_34 ?_ ?_
  · refine G_fg (lv2 := [vU, vU, vU]) ⟨Or.inl rfl, Or.inl rfl, Or.inl rfl, trivial⟩ ?_
    exact gX12_line_J61 hst fu s7
  · refine G_aload_n (x := a0) (pc := 37) dX12_line_37 rfl ?_
    refine G_iload_n (x := a2) (pc := 38) dX12_line_38 rfl ?_
    refine G_iconst (pc := 39) dX12_line_39 ?_
    refine G_bipush (pc := 40) dX12_line_40 ?_
    refine G_callSI (as := [vI a2, vI 0, vI 7]) (st := [vR a0]) (bc2 := 0) (bs2 := 0) (pc := 42) dX12_line_42 z_mX12_in z_sX12_in z_wX12_245 (gX12_in hst fu s7 a2 0 7) rfl rfl ⟨by decide, by decide, by decide, by decide, Nat.le_of_ble_eq_true rfl⟩ rfl (fun x10 s9 => ?_)
    refine G_if_ne (tgt := 52) (pc := 45) dX12_line_45 ?_ ?_
    · refine G_iconst (pc := 52) dX12_line_52 ?_
      exact gX12_line_J53 hst fu s9 a0 a1 a2 a0 0
    · refine G_iconst (pc := 48) dX12_line_48 ?_
      refine G_goto (tgt := 53) (pc := 49) dX12_line_49 ?_
      exact gX12_line_J53 hst fu s9 a0 a1 a2 a0 1
def fX12_line (fu : Nat) (s : z_M) (a0 : Int) (a1 : Int) (a2 : Int) : z_O := if z_ob a0 12 then z_let (z_up s a0 0 0) (fun s1 => if z_ob a0 12 then z_bN (fX12_laysAll fu s1 a0) (fun s2 => if z_ob a0 12 then z_let (s2 a0 44) (fun x3 => z_let (z_w (x3 - 1)) (fun x4 => z_bI (fX12_in fu s2 a1 0 x4) (fun x6 s5 => if (x6 : Int) ≠ 0 then (fX12_line_J29 fu s5 a0 a1 a2 a0 0) else (fX12_line_J29 fu s5 a0 a1 a2 a0 1)))) else none) else none) else none
theorem gX12_line {l : Launch} {K : z_K} (hst : l.stackTraces = false) (fu : Nat) (s : z_M) (a0 : Int) (a1 : Int) (a2 : Int) : z_D l K mX12_line 11 250 0 0 [vR a0, vI a1, vI a2] s (fX12_line fu s a0 a1 a2) := by
  refine z_D_of (lv := [vR a0, vI a1, vI a2]) hst z_mX12_line rfl ?_ (Nat.le_of_ble_eq_true rfl) rfl
  unfold fX12_line
  refine G_aload_n (x := a0) (pc := 0) dX12_line_0 rfl ?_
  refine G_iconst (pc := 1) dX12_line_1 ?_
  refine G_putI (j := 0) (pc := 2) dX12_line_2 rfl z_CLX12 (by decide) z_wX12_170 rfl (by decide) (by decide) (fun s1 => ?_)
  refine G_aload_n (x := a0) (pc := 5) dX12_line_5 rfl ?_
  refine G_callVN (as := []) (st := []) (c := 12) (bc2 := 0) (bs2 := 0) (pc := 6) dX12_line_6 z_mX12_laysAll z_vX12_laysAll z_wX12_371 (gX12_laysAll hst fu s1 a0) rfl rfl (by decide) rfl rfl ⟨by decide, by decide, by decide, by decide, Nat.le_of_ble_eq_true rfl⟩ rfl (fun s2 => ?_)
  refine G_aload_n (x := a0) (pc := 9) dX12_line_9 rfl ?_
  refine G_iload_n (x := a1) (pc := 10) dX12_line_10 rfl ?_
  refine G_iconst (pc := 11) dX12_line_11 ?_
  refine G_aload_n (x := a0) (pc := 12) dX12_line_12 rfl ?_
  refine G_getI (j := 44) (pc := 13) dX12_line_13 rfl z_CLX12 (by decide) z_wX12_365 (by decide) (fun x3 => ?_)
  refine G_iconst (pc := 16) dX12_line_16 ?_
  refine G_isub (pc := 17) dX12_line_17 (fun x4 => ?_)
  refine G_callSI (as := [vI a1, vI 0, vI x4]) (st := [vR a0]) (bc2 := 0) (bs2 := 0) (pc := 18) dX12_line_18 z_mX12_in z_sX12_in z_wX12_245 (gX12_in hst fu s2 a1 0 x4) rfl rfl ⟨by decide, by decide, by decide, by decide, Nat.le_of_ble_eq_true rfl⟩ rfl (fun x6 s5 => ?_)
  refine G_if_ne (tgt := 28) (pc := 21) dX12_line_21 ?_ ?_
  · refine G_iconst (pc := 28) dX12_line_28 ?_
    exact gX12_line_J29 hst fu s5 a0 a1 a2 a0 0
  · refine G_iconst (pc := 24) dX12_line_24 ?_
    refine G_goto (tgt := 29) (pc := 25) dX12_line_25 ?_
    exact gX12_line_J29 hst fu s5 a0 a1 a2 a0 1
def fX12_block_J61 (fu : Nat) (s : z_M) : z_O := some (vI 0, s)
theorem gX12_block_J61 {l : Launch} {K : z_K} (hst : l.stackTraces = false) (fu : Nat) (s : z_M) : G l K mX12_block 11 250 0 0 61 [vU, vU, vU] [] s (fX12_block_J61 fu s) := by
  unfold fX12_block_J61
  refine G_iconst (pc := 61) dX12_block_61 ?_
  exact G_iret (pc := 62) dX12_block_62
def fX12_block_J53 (fu : Nat) (s : z_M) (a0 : Int) (a1 : Int) (a2 : Int) (t0 : Int) (t1 : Int) : z_O := if z_ob t0 12 then z_bI (fX12_bad fu s t0 t1 2 1) (fun x12 s11 => if (x12 : Int) = 0 then (if z_ob a0 12 then z_let (z_gr a0 59) (fun x13 => if z_ix x13 103 a1 then z_let (z_gr x13 a1) (fun x14 => if z_ix x14 100 a2 then z_let (s11 x14 a2) (fun x15 => some (vI x15, s11)) else none) else none) else none) else (fX12_block_J61 fu s11)) else none
theorem gX12_block_J53 {l : Launch} {K : z_K} (hst : l.stackTraces = false) (fu : Nat) (s : z_M) (a0 : Int) (a1 : Int) (a2 : Int) (t0 : Int) (t1 : Int) : G l K mX12_block 11 250 0 0 53 [vR a0, vI a1, vI a2] [vI t1, vR t0] s (fX12_block_J53 fu s a0 a1 a2 t0 t1) := by
  unfold fX12_block_J53
  refine G_iconst (pc := 53) dX12_block_53 ?_
  refine G_iconst (pc := 54) dX12_block_54 ?_
  refine G_callVI (as := [vI t1, vI 2, vI 1]) (st := []) (c := 12) (bc2 := 0) (bs2 := 0) (pc := 55) dX12_block_55 z_mX12_bad z_vX12_bad z_wX12_249 (gX12_bad hst fu s t0 t1 2 1) rfl rfl (by decide) rfl rfl ⟨by decide, by decide, by decide, by decide, Nat.le_of_ble_eq_true rfl⟩ rfl (fun x12 s11 => ?_)
  refine G_if_eq (tgt := 63) (pc := 58) dX12_block_58 ?_ ?_
  · refine G_aload_n (x := a0) (pc := 63) dX12_block_63 rfl ?_
    refine G_getR (j := 59) (pc := 64) dX12_block_64 rfl z_CLX12 (by decide) z_wX12_149 (by decide) (fun x13 => ?_)
    refine G_iload_n (x := a1) (pc := 67) dX12_block_67 rfl ?_
    refine G_aald103 (pc := 68) dX12_block_68 (fun x14 => ?_)
    refine G_iload_n (x := a2) (pc := 69) dX12_block_69 rfl ?_
    refine G_iald (pc := 70) dX12_block_70 (fun x15 => ?_)
    exact G_iret (pc := 71) dX12_block_71
  · refine G_fg (lv2 := [vU, vU, vU]) ⟨Or.inl rfl, Or.inl rfl, Or.inl rfl, trivial⟩ ?_
    exact gX12_block_J61 hst fu s11
def fX12_block_J29 (fu : Nat) (s : z_M) (a0 : Int) (a1 : Int) (a2 : Int) (t0 : Int) (t1 : Int) : z_O := if z_ob t0 12 then z_bI (fX12_bad fu s t0 t1 1 0) (fun x8 s7 => if (x8 : Int) ≠ 0 then (fX12_block_J61 fu s7) else (z_bI (fX12_in fu s7 a2 0 7) (fun x10 s9 => if (x10 : Int) ≠ 0 then (fX12_block_J53 fu s9 a0 a1 a2 a0 0) else (fX12_block_J53 fu s9 a0 a1 a2 a0 1)))) else none
theorem gX12_block_J29 {l : Launch} {K : z_K} (hst : l.stackTraces = false) (fu : Nat) (s : z_M) (a0 : Int) (a1 : Int) (a2 : Int) (t0 : Int) (t1 : Int) : G l K mX12_block 11 250 0 0 29 [vR a0, vI a1, vI a2] [vI t1, vR t0] s (fX12_block_J29 fu s a0 a1 a2 t0 t1) := by
  unfold fX12_block_J29
  refine G_iconst (pc := 29) dX12_block_29 ?_
  refine G_iconst (pc := 30) dX12_block_30 ?_
  refine G_callVI (as := [vI t1, vI 1, vI 0]) (st := []) (c := 12) (bc2 := 0) (bs2 := 0) (pc := 31) dX12_block_31 z_mX12_bad z_vX12_bad z_wX12_249 (gX12_bad hst fu s t0 t1 1 0) rfl rfl (by decide) rfl rfl ⟨by decide, by decide, by decide, by decide, Nat.le_of_ble_eq_true rfl⟩ rfl (fun x8 s7 => ?_)
  refine G_if_ne (tgt := 61) (pc := 34) dX12_block_34 ?_ ?_
  · refine G_fg (lv2 := [vU, vU, vU]) ⟨Or.inl rfl, Or.inl rfl, Or.inl rfl, trivial⟩ ?_
    exact gX12_block_J61 hst fu s7
  · refine G_aload_n (x := a0) (pc := 37) dX12_block_37 rfl ?_
    refine G_iload_n (x := a2) (pc := 38) dX12_block_38 rfl ?_
    refine G_iconst (pc := 39) dX12_block_39 ?_
    refine G_bipush (pc := 40) dX12_block_40 ?_
    refine G_callSI (as := [vI a2, vI 0, vI 7]) (st := [vR a0]) (bc2 := 0) (bs2 := 0) (pc := 42) dX12_block_42 z_mX12_in z_sX12_in z_wX12_245 (gX12_in hst fu s7 a2 0 7) rfl rfl ⟨by decide, by decide, by decide, by decide, Nat.le_of_ble_eq_true rfl⟩ rfl (fun x10 s9 => ?_)
    refine G_if_ne (tgt := 52) (pc := 45) dX12_block_45 ?_ ?_
    · refine G_iconst (pc := 52) dX12_block_52 ?_
      exact gX12_block_J53 hst fu s9 a0 a1 a2 a0 0
    · refine G_iconst (pc := 48) dX12_block_48 ?_
      refine G_goto (tgt := 53) (pc := 49) dX12_block_49 ?_
      exact gX12_block_J53 hst fu s9 a0 a1 a2 a0 1
def fX12_block (fu : Nat) (s : z_M) (a0 : Int) (a1 : Int) (a2 : Int) : z_O := if z_ob a0 12 then z_let (z_up s a0 0 0) (fun s1 => if z_ob a0 12 then z_bN (fX12_laysAll fu s1 a0) (fun s2 => if z_ob a0 12 then z_let (s2 a0 58) (fun x3 => z_let (z_w (x3 - 1)) (fun x4 => z_bI (fX12_in fu s2 a1 0 x4) (fun x6 s5 => if (x6 : Int) ≠ 0 then (fX12_block_J29 fu s5 a0 a1 a2 a0 0) else (fX12_block_J29 fu s5 a0 a1 a2 a0 1)))) else none) else none) else none
theorem gX12_block {l : Launch} {K : z_K} (hst : l.stackTraces = false) (fu : Nat) (s : z_M) (a0 : Int) (a1 : Int) (a2 : Int) : z_D l K mX12_block 11 250 0 0 [vR a0, vI a1, vI a2] s (fX12_block fu s a0 a1 a2) := by
  refine z_D_of (lv := [vR a0, vI a1, vI a2]) hst z_mX12_block rfl ?_ (Nat.le_of_ble_eq_true rfl) rfl
  unfold fX12_block
  refine G_aload_n (x := a0) (pc := 0) dX12_block_0 rfl ?_
  refine G_iconst (pc := 1) dX12_block_1 ?_
  refine G_putI (j := 0) (pc := 2) dX12_block_2 rfl z_CLX12 (by decide) z_wX12_170 rfl (by decide) (by decide) (fun s1 => ?_)
  refine G_aload_n (x := a0) (pc := 5) dX12_block_5 rfl ?_
  refine G_callVN (as := []) (st := []) (c := 12) (bc2 := 0) (bs2 := 0) (pc := 6) dX12_block_6 z_mX12_laysAll z_vX12_laysAll z_wX12_371 (gX12_laysAll hst fu s1 a0) rfl rfl (by decide) rfl rfl ⟨by decide, by decide, by decide, by decide, Nat.le_of_ble_eq_true rfl⟩ rfl (fun s2 => ?_)
  refine G_aload_n (x := a0) (pc := 9) dX12_block_9 rfl ?_
  refine G_iload_n (x := a1) (pc := 10) dX12_block_10 rfl ?_
  refine G_iconst (pc := 11) dX12_block_11 ?_
  refine G_aload_n (x := a0) (pc := 12) dX12_block_12 rfl ?_
  refine G_getI (j := 58) (pc := 13) dX12_block_13 rfl z_CLX12 (by decide) z_wX12_359 (by decide) (fun x3 => ?_)
  refine G_iconst (pc := 16) dX12_block_16 ?_
  refine G_isub (pc := 17) dX12_block_17 (fun x4 => ?_)
  refine G_callSI (as := [vI a1, vI 0, vI x4]) (st := [vR a0]) (bc2 := 0) (bs2 := 0) (pc := 18) dX12_block_18 z_mX12_in z_sX12_in z_wX12_245 (gX12_in hst fu s2 a1 0 x4) rfl rfl ⟨by decide, by decide, by decide, by decide, Nat.le_of_ble_eq_true rfl⟩ rfl (fun x6 s5 => ?_)
  refine G_if_ne (tgt := 28) (pc := 21) dX12_block_21 ?_ ?_
  · refine G_iconst (pc := 28) dX12_block_28 ?_
    exact gX12_block_J29 hst fu s5 a0 a1 a2 a0 0
  · refine G_iconst (pc := 24) dX12_block_24 ?_
    refine G_goto (tgt := 29) (pc := 25) dX12_block_25 ?_
    exact gX12_block_J29 hst fu s5 a0 a1 a2 a0 1
def fX12_lettersIn_L12 (fu : Nat) (a0 : Int) (a1 : Int) (a2 : Int) : Nat → z_M → Int → Int → (z_M → Int → z_O) → z_O
  | 0, _, _, _, _ => none
  | F + 1, s, a3, a4, k => if z_ob a0 12 then z_let (z_gr a0 59) (fun x4 => if z_ix x4 103 a1 then z_let (z_gr x4 a1) (fun x5 => if z_ix x5 100 0 then z_let (s x5 0) (fun x6 => if z_ob a0 12 then z_let (z_gr a0 59) (fun x7 => if z_ix x7 103 a1 then z_let (z_gr x7 a1) (fun x8 => if z_ix x8 100 1 then z_let (s x8 1) (fun x9 => z_let (z_w (x6 + x9)) (fun x10 => if (x10 : Int) ≤ a4 then (k s a3) else (if z_ob a0 12 then z_bI (fX12_lettersOf fu s a0 a4 a2) (fun x12 s11 => z_let (z_w (a3 + x12)) (fun x13 => z_let (z_w (a4 + 1)) (fun x14 => fX12_lettersIn_L12 fu a0 a1 a2 F s11 x13 x14 k))) else none))) else none) else none) else none) else none) else none) else none
theorem gX12_lettersIn_L12 {l : Launch} {K : z_K} (hst : l.stackTraces = false) (fu : Nat) (a0 : Int) (a1 : Int) (a2 : Int) (k : z_M → Int → z_O) (hk : ∀ (s : z_M) (a3 : Int), G l K mX12_lettersIn 1 22 0 0 50 [vU, vU, vU, vI a3, vU] [] s (k s a3)) : ∀ (F : Nat) (s : z_M) (a3 : Int) (a4 : Int), G l K mX12_lettersIn 1 22 0 0 12 [vR a0, vI a1, vI a2, vI a3, vI a4] [] s (fX12_lettersIn_L12 fu a0 a1 a2 F s a3 a4 k) := by
  intro F
  induction F with
  | zero => exact fun s a3 a4 h => absurd rfl h
  | succ F ih =>
    intro s a3 a4
    rw [fX12_lettersIn_L12]
    refine G_iload (x := a4) (pc := 12) dX12_lettersIn_12 rfl ?_
    refine G_aload_n (x := a0) (pc := 14) dX12_lettersIn_14 rfl ?_
    refine G_getR (j := 59) (pc := 15) dX12_lettersIn_15 rfl z_CLX12 (by decide) z_wX12_149 (by decide) (fun x4 => ?_)
    refine G_iload_n (x := a1) (pc := 18) dX12_lettersIn_18 rfl ?_
    refine G_aald103 (pc := 19) dX12_lettersIn_19 (fun x5 => ?_)
    refine G_iconst (pc := 20) dX12_lettersIn_20 ?_
    refine G_iald (pc := 21) dX12_lettersIn_21 (fun x6 => ?_)
    refine G_aload_n (x := a0) (pc := 22) dX12_lettersIn_22 rfl ?_
    refine G_getR (j := 59) (pc := 23) dX12_lettersIn_23 rfl z_CLX12 (by decide) z_wX12_149 (by decide) (fun x7 => ?_)
    refine G_iload_n (x := a1) (pc := 26) dX12_lettersIn_26 rfl ?_
    refine G_aald103 (pc := 27) dX12_lettersIn_27 (fun x8 => ?_)
    refine G_iconst (pc := 28) dX12_lettersIn_28 ?_
    refine G_iald (pc := 29) dX12_lettersIn_29 (fun x9 => ?_)
    refine G_iadd (pc := 30) dX12_lettersIn_30 (fun x10 => ?_)
    refine G_icmp_ge (tgt := 50) (pc := 31) dX12_lettersIn_31 ?_ ?_
    · refine G_fg (lv2 := [vU, vU, vU, vI a3, vU]) ⟨Or.inl rfl, Or.inl rfl, Or.inl rfl, Or.inr rfl, Or.inl rfl, trivial⟩ ?_
      exact hk s a3
    · refine G_iload_n (x := a3) (pc := 34) dX12_lettersIn_34 rfl ?_
      refine G_aload_n (x := a0) (pc := 35) dX12_lettersIn_35 rfl ?_
      refine G_iload (x := a4) (pc := 36) dX12_lettersIn_36 rfl ?_
      refine G_iload_n (x := a2) (pc := 38) dX12_lettersIn_38 rfl ?_
      refine G_callVI (as := [vI a4, vI a2]) (st := [vI a3]) (c := 12) (bc2 := 0) (bs2 := 0) (pc := 39) dX12_lettersIn_39 z_mX12_lettersOf z_vX12_lettersOf z_wX12_291 (gX12_lettersOf hst fu s a0 a4 a2) rfl rfl (by decide) rfl rfl ⟨by decide, by decide, by decide, by decide, Nat.le_of_ble_eq_true rfl⟩ rfl (fun x12 s11 => ?_)
      refine G_iadd (pc := 42) dX12_lettersIn_42 (fun x13 => ?_)
      refine G_istore_n (lv' := [vR a0, vI a1, vI a2, vI x13, vI a4]) (pc := 43) dX12_lettersIn_43 rfl ?_
      refine G_iinc (x := a4) (g := fun x14 => [vR a0, vI a1, vI a2, vI x13, vI x14]) (pc := 44) dX12_lettersIn_44 rfl (fun _ => rfl) (fun x14 => ?_)
      refine G_goto (tgt := 12) (pc := 47) dX12_lettersIn_47 ?_
      exact ih s11 x13 x14
def fX12_lettersIn (fu : Nat) (s : z_M) (a0 : Int) (a1 : Int) (a2 : Int) : z_O := if z_ob a0 12 then z_let (z_gr a0 59) (fun x1 => if z_ix x1 103 a1 then z_let (z_gr x1 a1) (fun x2 => if z_ix x2 100 0 then z_let (s x2 0) (fun x3 => fX12_lettersIn_L12 fu a0 a1 a2 fu s 0 x3 (fun s15 x16 => some (vI x16, s15))) else none) else none) else none
theorem gX12_lettersIn {l : Launch} {K : z_K} (hst : l.stackTraces = false) (fu : Nat) (s : z_M) (a0 : Int) (a1 : Int) (a2 : Int) : z_D l K mX12_lettersIn 1 22 0 0 [vR a0, vI a1, vI a2] s (fX12_lettersIn fu s a0 a1 a2) := by
  refine z_D_of (lv := [vR a0, vI a1, vI a2, vU, vU]) hst z_mX12_lettersIn rfl ?_ (Nat.le_of_ble_eq_true rfl) rfl
  unfold fX12_lettersIn
  refine G_iconst (pc := 0) dX12_lettersIn_0 ?_
  refine G_istore_n (lv' := [vR a0, vI a1, vI a2, vI 0, vU]) (pc := 1) dX12_lettersIn_1 rfl ?_
  refine G_aload_n (x := a0) (pc := 2) dX12_lettersIn_2 rfl ?_
  refine G_getR (j := 59) (pc := 3) dX12_lettersIn_3 rfl z_CLX12 (by decide) z_wX12_149 (by decide) (fun x1 => ?_)
  refine G_iload_n (x := a1) (pc := 6) dX12_lettersIn_6 rfl ?_
  refine G_aald103 (pc := 7) dX12_lettersIn_7 (fun x2 => ?_)
  refine G_iconst (pc := 8) dX12_lettersIn_8 ?_
  refine G_iald (pc := 9) dX12_lettersIn_9 (fun x3 => ?_)
  refine G_istore (lv' := [vR a0, vI a1, vI a2, vI 0, vI x3]) (pc := 10) dX12_lettersIn_10 rfl ?_
  refine gX12_lettersIn_L12 hst fu a0 a1 a2 _ (fun s15 x16 => ?_) fu s 0 x3
  refine G_iload_n (x := x16) (pc := 50) dX12_lettersIn_50 rfl ?_
  exact G_iret (pc := 51) dX12_lettersIn_51
def fX12_letterAt_L13 (fu : Nat) (a0 : Int) (a2 : Int) : Nat → z_M → Int → Int → (z_M → Int → Int → z_O) → z_O
  | 0, _, _, _, _ => none
  | F + 1, s, a4, a5, k => if z_ob a0 12 then z_bI (fX12_lettersOf fu s a0 a5 a2) (fun x5 s4 => if (a4 : Int) < x5 then (k s4 a4 a5) else (if z_ob a0 12 then z_bI (fX12_lettersOf fu s4 a0 a5 a2) (fun x7 s6 => z_let (z_w (a4 - x7)) (fun x8 => z_let (z_w (a5 + 1)) (fun x9 => fX12_letterAt_L13 fu a0 a2 F s6 x8 x9 k))) else none)) else none
theorem gX12_letterAt_L13 {l : Launch} {K : z_K} (hst : l.stackTraces = false) (fu : Nat) (a0 : Int) (a2 : Int) (k : z_M → Int → Int → z_O) (hk : ∀ (s : z_M) (a4 : Int) (a5 : Int), G l K mX12_letterAt 1 22 0 0 43 [vR a0, vU, vI a2, vU, vI a4, vI a5] [] s (k s a4 a5)) : ∀ (F : Nat) (s : z_M) (a4 : Int) (a5 : Int), G l K mX12_letterAt 1 22 0 0 13 [vR a0, vU, vI a2, vU, vI a4, vI a5] [] s (fX12_letterAt_L13 fu a0 a2 F s a4 a5 k) := by
  intro F
  induction F with
  | zero => exact fun s a4 a5 h => absurd rfl h
  | succ F ih =>
    intro s a4 a5
    rw [fX12_letterAt_L13]
    refine G_iload (x := a4) (pc := 13) dX12_letterAt_13 rfl ?_
    refine G_aload_n (x := a0) (pc := 15) dX12_letterAt_15 rfl ?_
    refine G_iload (x := a5) (pc := 16) dX12_letterAt_16 rfl ?_
    refine G_iload_n (x := a2) (pc := 18) dX12_letterAt_18 rfl ?_
    refine G_callVI (as := [vI a5, vI a2]) (st := [vI a4]) (c := 12) (bc2 := 0) (bs2 := 0) (pc := 19) dX12_letterAt_19 z_mX12_lettersOf z_vX12_lettersOf z_wX12_291 (gX12_lettersOf hst fu s a0 a5 a2) rfl rfl (by decide) rfl rfl ⟨by decide, by decide, by decide, by decide, Nat.le_of_ble_eq_true rfl⟩ rfl (fun x5 s4 => ?_)
    refine G_icmp_lt (tgt := 43) (pc := 22) dX12_letterAt_22 ?_ ?_
    · exact hk s4 a4 a5
    · refine G_iload (x := a4) (pc := 25) dX12_letterAt_25 rfl ?_
      refine G_aload_n (x := a0) (pc := 27) dX12_letterAt_27 rfl ?_
      refine G_iload (x := a5) (pc := 28) dX12_letterAt_28 rfl ?_
      refine G_iload_n (x := a2) (pc := 30) dX12_letterAt_30 rfl ?_
      refine G_callVI (as := [vI a5, vI a2]) (st := [vI a4]) (c := 12) (bc2 := 0) (bs2 := 0) (pc := 31) dX12_letterAt_31 z_mX12_lettersOf z_vX12_lettersOf z_wX12_291 (gX12_lettersOf hst fu s4 a0 a5 a2) rfl rfl (by decide) rfl rfl ⟨by decide, by decide, by decide, by decide, Nat.le_of_ble_eq_true rfl⟩ rfl (fun x7 s6 => ?_)
      refine G_isub (pc := 34) dX12_letterAt_34 (fun x8 => ?_)
      refine G_istore (lv' := [vR a0, vU, vI a2, vU, vI x8, vI a5]) (pc := 35) dX12_letterAt_35 rfl ?_
      refine G_iinc (x := a5) (g := fun x9 => [vR a0, vU, vI a2, vU, vI x8, vI x9]) (pc := 37) dX12_letterAt_37 rfl (fun _ => rfl) (fun x9 => ?_)
      refine G_goto (tgt := 13) (pc := 40) dX12_letterAt_40 ?_
      exact ih s6 x8 x9
def fX12_letterAt (fu : Nat) (s : z_M) (a0 : Int) (a1 : Int) (a2 : Int) (a3 : Int) : z_O := if z_ob a0 12 then z_let (z_gr a0 59) (fun x1 => if z_ix x1 103 a1 then z_let (z_gr x1 a1) (fun x2 => if z_ix x2 100 0 then z_let (s x2 0) (fun x3 => fX12_letterAt_L13 fu a0 a2 fu s a3 x3 (fun s10 x11 x12 => if z_ob a0 12 then z_let (z_gr a0 18) (fun x13 => if z_ix x13 105 0 then z_let (z_gr x13 0) (fun x14 => if z_ob a0 12 then z_let (z_gr a0 15) (fun x15 => if z_ix x15 103 0 then z_let (z_gr x15 0) (fun x16 => if z_ob a0 12 then z_let (z_gr a0 22) (fun x17 => if z_ix x17 100 x12 then z_let (s10 x17 x12) (fun x18 => if z_ix x16 100 x18 then z_let (s10 x16 x18) (fun x19 => if z_ix x14 103 x19 then z_let (z_gr x14 x19) (fun x20 => z_let (z_w (10 * a2)) (fun x21 => z_let (z_w (x21 + 1)) (fun x22 => z_let (z_w (x22 + x11)) (fun x23 => if z_ix x20 100 x23 then z_let (s10 x20 x23) (fun x24 => some (vI x24, s10)) else none)))) else none) else none) else none) else none) else none) else none) else none) else none)) else none) else none) else none
theorem gX12_letterAt {l : Launch} {K : z_K} (hst : l.stackTraces = false) (fu : Nat) (s : z_M) (a0 : Int) (a1 : Int) (a2 : Int) (a3 : Int) : z_D l K mX12_letterAt 1 22 0 0 [vR a0, vI a1, vI a2, vI a3] s (fX12_letterAt fu s a0 a1 a2 a3) := by
  refine z_D_of (lv := [vR a0, vI a1, vI a2, vI a3, vU, vU]) hst z_mX12_letterAt rfl ?_ (Nat.le_of_ble_eq_true rfl) rfl
  unfold fX12_letterAt
  refine G_iload_n (x := a3) (pc := 0) dX12_letterAt_0 rfl ?_
  refine G_istore (lv' := [vR a0, vI a1, vI a2, vI a3, vI a3, vU]) (pc := 1) dX12_letterAt_1 rfl ?_
  refine G_aload_n (x := a0) (pc := 3) dX12_letterAt_3 rfl ?_
  refine G_getR (j := 59) (pc := 4) dX12_letterAt_4 rfl z_CLX12 (by decide) z_wX12_149 (by decide) (fun x1 => ?_)
  refine G_iload_n (x := a1) (pc := 7) dX12_letterAt_7 rfl ?_
  refine G_aald103 (pc := 8) dX12_letterAt_8 (fun x2 => ?_)
  refine G_iconst (pc := 9) dX12_letterAt_9 ?_
  refine G_iald (pc := 10) dX12_letterAt_10 (fun x3 => ?_)
  refine G_istore (lv' := [vR a0, vI a1, vI a2, vI a3, vI a3, vI x3]) (pc := 11) dX12_letterAt_11 rfl ?_
  refine G_fg (lv2 := [vR a0, vU, vI a2, vU, vI a3, vI x3]) ⟨Or.inr rfl, Or.inl rfl, Or.inr rfl, Or.inl rfl, Or.inr rfl, Or.inr rfl, trivial⟩ ?_
  refine gX12_letterAt_L13 hst fu a0 a2 _ (fun s10 x11 x12 => ?_) fu s a3 x3
  refine G_aload_n (x := a0) (pc := 43) dX12_letterAt_43 rfl ?_
  refine G_getR (j := 18) (pc := 44) dX12_letterAt_44 rfl z_CLX12 (by decide) z_wX12_51 (by decide) (fun x13 => ?_)
  refine G_iconst (pc := 47) dX12_letterAt_47 ?_
  refine G_aald105 (pc := 48) dX12_letterAt_48 (fun x14 => ?_)
  refine G_aload_n (x := a0) (pc := 49) dX12_letterAt_49 rfl ?_
  refine G_getR (j := 15) (pc := 50) dX12_letterAt_50 rfl z_CLX12 (by decide) z_wX12_40 (by decide) (fun x15 => ?_)
  refine G_iconst (pc := 53) dX12_letterAt_53 ?_
  refine G_aald103 (pc := 54) dX12_letterAt_54 (fun x16 => ?_)
  refine G_aload_n (x := a0) (pc := 55) dX12_letterAt_55 rfl ?_
  refine G_getR (j := 22) (pc := 56) dX12_letterAt_56 rfl z_CLX12 (by decide) z_wX12_57 (by decide) (fun x17 => ?_)
  refine G_iload (x := x12) (pc := 59) dX12_letterAt_59 rfl ?_
  refine G_iald (pc := 61) dX12_letterAt_61 (fun x18 => ?_)
  refine G_iald (pc := 62) dX12_letterAt_62 (fun x19 => ?_)
  refine G_aald103 (pc := 63) dX12_letterAt_63 (fun x20 => ?_)
  refine G_bipush (pc := 64) dX12_letterAt_64 ?_
  refine G_iload_n (x := a2) (pc := 66) dX12_letterAt_66 rfl ?_
  refine G_imul (pc := 67) dX12_letterAt_67 (fun x21 => ?_)
  refine G_iconst (pc := 68) dX12_letterAt_68 ?_
  refine G_iadd (pc := 69) dX12_letterAt_69 (fun x22 => ?_)
  refine G_iload (x := x11) (pc := 70) dX12_letterAt_70 rfl ?_
  refine G_iadd (pc := 72) dX12_letterAt_72 (fun x23 => ?_)
  refine G_iald (pc := 73) dX12_letterAt_73 (fun x24 => ?_)
  exact G_iret (pc := 74) dX12_letterAt_74
def fX12_letterPlace (fu : Nat) (s : z_M) (a0 : Int) (a1 : Int) (a2 : Int) (a3 : Int) : z_O := if z_ob a0 12 then z_bI (fX12_lettersIn fu s a0 a1 a2) (fun x2 s1 => if z_ob a0 12 then z_let (z_gr a0 49) (fun x3 => if z_ob a0 12 then z_let (z_gr a0 59) (fun x4 => if z_ix x4 103 a1 then z_let (z_gr x4 a1) (fun x5 => if z_ix x5 100 0 then z_let (s1 x5 0) (fun x6 => if z_ix x3 100 x6 then z_let (s1 x3 x6) (fun x7 => if z_ob a0 12 then z_let (z_gr a0 59) (fun x8 => if z_ix x8 103 a1 then z_let (z_gr x8 a1) (fun x9 => if z_ix x9 100 2 then z_let (s1 x9 2) (fun x10 => z_let (z_w (6 * x2)) (fun x11 => if (x11 : Int) ≤ x10 then (z_let (z_w (2 * a3)) (fun x12 => z_let (z_w (x12 + 1)) (fun x13 => z_let (z_w (x10 * x13)) (fun x14 => z_let (z_w (2 * x2)) (fun x15 => if x15 ≠ 0 then z_let (z_w (Int.tdiv x14 x15)) (fun x16 => z_let (z_w (x7 + x16)) (fun x17 => z_let (z_w (x17 - 3)) (fun x18 => some (vI x18, s1)))) else none))))) else (z_let (z_w (6 * x2)) (fun x19 => z_let (z_w (x19 - x10)) (fun x20 => if 2 ≠ 0 then z_let (z_w (Int.tdiv x20 2)) (fun x21 => z_let (z_w (x7 - x21)) (fun x22 => z_let (z_w (6 * a3)) (fun x23 => z_let (z_w (x22 + x23)) (fun x24 => some (vI x24, s1))))) else none))))) else none) else none) else none) else none) else none) else none) else none) else none) else none
theorem gX12_letterPlace {l : Launch} {K : z_K} (hst : l.stackTraces = false) (fu : Nat) (s : z_M) (a0 : Int) (a1 : Int) (a2 : Int) (a3 : Int) : z_D l K mX12_letterPlace 2 46 0 0 [vR a0, vI a1, vI a2, vI a3] s (fX12_letterPlace fu s a0 a1 a2 a3) := by
  refine z_D_of (lv := [vR a0, vI a1, vI a2, vI a3, vU, vU, vU]) hst z_mX12_letterPlace rfl ?_ (Nat.le_of_ble_eq_true rfl) rfl
  unfold fX12_letterPlace
  refine G_aload_n (x := a0) (pc := 0) dX12_letterPlace_0 rfl ?_
  refine G_iload_n (x := a1) (pc := 1) dX12_letterPlace_1 rfl ?_
  refine G_iload_n (x := a2) (pc := 2) dX12_letterPlace_2 rfl ?_
  refine G_callVI (as := [vI a1, vI a2]) (st := []) (c := 12) (bc2 := 0) (bs2 := 0) (pc := 3) dX12_letterPlace_3 z_mX12_lettersIn z_vX12_lettersIn z_wX12_393 (gX12_lettersIn hst fu s a0 a1 a2) rfl rfl (by decide) rfl rfl ⟨by decide, by decide, by decide, by decide, Nat.le_of_ble_eq_true rfl⟩ rfl (fun x2 s1 => ?_)
  refine G_istore (lv' := [vR a0, vI a1, vI a2, vI a3, vI x2, vU, vU]) (pc := 6) dX12_letterPlace_6 rfl ?_
  refine G_aload_n (x := a0) (pc := 8) dX12_letterPlace_8 rfl ?_
  refine G_getR (j := 49) (pc := 9) dX12_letterPlace_9 rfl z_CLX12 (by decide) z_wX12_122 (by decide) (fun x3 => ?_)
  refine G_aload_n (x := a0) (pc := 12) dX12_letterPlace_12 rfl ?_
  refine G_getR (j := 59) (pc := 13) dX12_letterPlace_13 rfl z_CLX12 (by decide) z_wX12_149 (by decide) (fun x4 => ?_)
  refine G_iload_n (x := a1) (pc := 16) dX12_letterPlace_16 rfl ?_
  refine G_aald103 (pc := 17) dX12_letterPlace_17 (fun x5 => ?_)
  refine G_iconst (pc := 18) dX12_letterPlace_18 ?_
  refine G_iald (pc := 19) dX12_letterPlace_19 (fun x6 => ?_)
  refine G_iald (pc := 20) dX12_letterPlace_20 (fun x7 => ?_)
  refine G_istore (lv' := [vR a0, vI a1, vI a2, vI a3, vI x2, vI x7, vU]) (pc := 21) dX12_letterPlace_21 rfl ?_
  refine G_aload_n (x := a0) (pc := 23) dX12_letterPlace_23 rfl ?_
  refine G_getR (j := 59) (pc := 24) dX12_letterPlace_24 rfl z_CLX12 (by decide) z_wX12_149 (by decide) (fun x8 => ?_)
  refine G_iload_n (x := a1) (pc := 27) dX12_letterPlace_27 rfl ?_
  refine G_aald103 (pc := 28) dX12_letterPlace_28 (fun x9 => ?_)
  refine G_iconst (pc := 29) dX12_letterPlace_29 ?_
  refine G_iald (pc := 30) dX12_letterPlace_30 (fun x10 => ?_)
  refine G_istore (lv' := [vR a0, vI a1, vI a2, vI a3, vI x2, vI x7, vI x10]) (pc := 31) dX12_letterPlace_31 rfl ?_
  refine G_bipush (pc := 33) dX12_letterPlace_33 ?_
  refine G_iload (x := x2) (pc := 35) dX12_letterPlace_35 rfl ?_
  refine G_imul (pc := 37) dX12_letterPlace_37 (fun x11 => ?_)
  refine G_iload (x := x10) (pc := 38) dX12_letterPlace_38 rfl ?_
  refine G_icmp_le (tgt := 62) (pc := 40) dX12_letterPlace_40 ?_ ?_
  · refine G_iload (x := x7) (pc := 62) dX12_letterPlace_62 rfl ?_
    refine G_iload (x := x10) (pc := 64) dX12_letterPlace_64 rfl ?_
    refine G_iconst (pc := 66) dX12_letterPlace_66 ?_
    refine G_iload_n (x := a3) (pc := 67) dX12_letterPlace_67 rfl ?_
    refine G_imul (pc := 68) dX12_letterPlace_68 (fun x12 => ?_)
    refine G_iconst (pc := 69) dX12_letterPlace_69 ?_
    refine G_iadd (pc := 70) dX12_letterPlace_70 (fun x13 => ?_)
    refine G_imul (pc := 71) dX12_letterPlace_71 (fun x14 => ?_)
    refine G_iconst (pc := 72) dX12_letterPlace_72 ?_
    refine G_iload (x := x2) (pc := 73) dX12_letterPlace_73 rfl ?_
    refine G_imul (pc := 75) dX12_letterPlace_75 (fun x15 => ?_)
    refine G_idiv (pc := 76) dX12_letterPlace_76 (fun x16 => ?_)
    refine G_iadd (pc := 77) dX12_letterPlace_77 (fun x17 => ?_)
    refine G_iconst (pc := 78) dX12_letterPlace_78 ?_
    refine G_isub (pc := 79) dX12_letterPlace_79 (fun x18 => ?_)
    exact G_iret (pc := 80) dX12_letterPlace_80
  · refine G_iload (x := x7) (pc := 43) dX12_letterPlace_43 rfl ?_
    refine G_bipush (pc := 45) dX12_letterPlace_45 ?_
    refine G_iload (x := x2) (pc := 47) dX12_letterPlace_47 rfl ?_
    refine G_imul (pc := 49) dX12_letterPlace_49 (fun x19 => ?_)
    refine G_iload (x := x10) (pc := 50) dX12_letterPlace_50 rfl ?_
    refine G_isub (pc := 52) dX12_letterPlace_52 (fun x20 => ?_)
    refine G_iconst (pc := 53) dX12_letterPlace_53 ?_
    refine G_idiv (pc := 54) dX12_letterPlace_54 (fun x21 => ?_)
    refine G_isub (pc := 55) dX12_letterPlace_55 (fun x22 => ?_)
    refine G_bipush (pc := 56) dX12_letterPlace_56 ?_
    refine G_iload_n (x := a3) (pc := 58) dX12_letterPlace_58 rfl ?_
    refine G_imul (pc := 59) dX12_letterPlace_59 (fun x23 => ?_)
    refine G_iadd (pc := 60) dX12_letterPlace_60 (fun x24 => ?_)
    exact G_iret (pc := 61) dX12_letterPlace_61
def fX12_reading_J70 (fu : Nat) (s : z_M) : z_O := some (vI 0, s)
theorem gX12_reading_J70 {l : Launch} {K : z_K} (hst : l.stackTraces = false) (fu : Nat) (s : z_M) : G l K mX12_reading 11 250 0 0 70 [vU, vU, vU, vU, vU] [] s (fX12_reading_J70 fu s) := by
  unfold fX12_reading_J70
  refine G_iconst (pc := 70) dX12_reading_70 ?_
  exact G_iret (pc := 71) dX12_reading_71
def fX12_reading_J123 (fu : Nat) (s : z_M) (t0 : Int) : z_O := some (vI t0, s)
theorem gX12_reading_J123 {l : Launch} {K : z_K} (hst : l.stackTraces = false) (fu : Nat) (s : z_M) (t0 : Int) : G l K mX12_reading 11 250 0 0 123 [vU, vU, vU, vU, vU] [vI t0] s (fX12_reading_J123 fu s t0) := by
  unfold fX12_reading_J123
  exact G_iret (pc := 123) dX12_reading_123
def fX12_reading_J100 (fu : Nat) (s : z_M) (t0 : Int) : z_O := some (vI t0, s)
theorem gX12_reading_J100 {l : Launch} {K : z_K} (hst : l.stackTraces = false) (fu : Nat) (s : z_M) (t0 : Int) : G l K mX12_reading 11 250 0 0 100 [vU, vU, vU, vU, vU] [vI t0] s (fX12_reading_J100 fu s t0) := by
  unfold fX12_reading_J100
  exact G_iret (pc := 100) dX12_reading_100
def fX12_reading_J62 (fu : Nat) (s : z_M) (a0 : Int) (a1 : Int) (a2 : Int) (a3 : Int) (a4 : Int) (t0 : Int) (t1 : Int) : z_O := if z_ob t0 12 then z_bI (fX12_bad fu s t0 t1 2 1) (fun x12 s11 => if (x12 : Int) = 0 then (if z_ob a0 12 then z_bI (fX12_lettersIn fu s11 a0 a1 a2) (fun x14 s13 => z_let (z_w (x14 - 1)) (fun x15 => z_bI (fX12_in fu s13 a3 0 x15) (fun x17 s16 => if (x17 : Int) ≠ 0 then (if (a4 : Int) ≠ 0 then (if z_ob a0 12 then z_bI (fX12_letterPlace fu s16 a0 a1 a2 a3) (fun x19 s18 => fX12_reading_J123 fu s18 x19) else none) else (if z_ob a0 12 then z_bI (fX12_letterAt fu s16 a0 a1 a2 a3) (fun x21 s20 => fX12_reading_J123 fu s20 x21) else none)) else (if (a4 : Int) ≠ 0 then (fX12_reading_J100 fu s16 (-1000)) else (fX12_reading_J100 fu s16 (-1)))))) else none) else (fX12_reading_J70 fu s11)) else none
theorem gX12_reading_J62 {l : Launch} {K : z_K} (hst : l.stackTraces = false) (fu : Nat) (s : z_M) (a0 : Int) (a1 : Int) (a2 : Int) (a3 : Int) (a4 : Int) (t0 : Int) (t1 : Int) : G l K mX12_reading 11 250 0 0 62 [vR a0, vI a1, vI a2, vI a3, vI a4] [vI t1, vR t0] s (fX12_reading_J62 fu s a0 a1 a2 a3 a4 t0 t1) := by
  unfold fX12_reading_J62
  refine G_iconst (pc := 62) dX12_reading_62 ?_
  refine G_iconst (pc := 63) dX12_reading_63 ?_
  refine G_callVI (as := [vI t1, vI 2, vI 1]) (st := []) (c := 12) (bc2 := 0) (bs2 := 0) (pc := 64) dX12_reading_64 z_mX12_bad z_vX12_bad z_wX12_249 (gX12_bad hst fu s t0 t1 2 1) rfl rfl (by decide) rfl rfl ⟨by decide, by decide, by decide, by decide, Nat.le_of_ble_eq_true rfl⟩ rfl (fun x12 s11 => ?_)
  refine G_if_eq (tgt := 72) (pc := 67) dX12_reading_67 ?_ ?_
  · refine G_iload_n (x := a3) (pc := 72) dX12_reading_72 rfl ?_
    refine G_iconst (pc := 73) dX12_reading_73 ?_
    refine G_aload_n (x := a0) (pc := 74) dX12_reading_74 rfl ?_
    refine G_iload_n (x := a1) (pc := 75) dX12_reading_75 rfl ?_
    refine G_iload_n (x := a2) (pc := 76) dX12_reading_76 rfl ?_
    refine G_callVI (as := [vI a1, vI a2]) (st := [vI 0, vI a3]) (c := 12) (bc2 := 0) (bs2 := 0) (pc := 77) dX12_reading_77 z_mX12_lettersIn z_vX12_lettersIn z_wX12_393 (gX12_lettersIn hst fu s11 a0 a1 a2) rfl rfl (by decide) rfl rfl ⟨by decide, by decide, by decide, by decide, Nat.le_of_ble_eq_true rfl⟩ rfl (fun x14 s13 => ?_)
    refine G_iconst (pc := 80) dX12_reading_80 ?_
    refine G_isub (pc := 81) dX12_reading_81 (fun x15 => ?_)
    refine G_callSI (as := [vI a3, vI 0, vI x15]) (st := []) (bc2 := 0) (bs2 := 0) (pc := 82) dX12_reading_82 z_mX12_in z_sX12_in z_wX12_245 (gX12_in hst fu s13 a3 0 x15) rfl rfl ⟨by decide, by decide, by decide, by decide, Nat.le_of_ble_eq_true rfl⟩ rfl (fun x17 s16 => ?_)
    refine G_if_ne (tgt := 101) (pc := 85) dX12_reading_85 ?_ ?_
    · refine G_iload (x := a4) (pc := 101) dX12_reading_101 rfl ?_
      refine G_if_ne (tgt := 116) (pc := 103) dX12_reading_103 ?_ ?_
      · refine G_aload_n (x := a0) (pc := 116) dX12_reading_116 rfl ?_
        refine G_iload_n (x := a1) (pc := 117) dX12_reading_117 rfl ?_
        refine G_iload_n (x := a2) (pc := 118) dX12_reading_118 rfl ?_
        refine G_iload_n (x := a3) (pc := 119) dX12_reading_119 rfl ?_
        refine G_callVI (as := [vI a1, vI a2, vI a3]) (st := []) (c := 12) (bc2 := 0) (bs2 := 0) (pc := 120) dX12_reading_120 z_mX12_letterPlace z_vX12_letterPlace z_wX12_399 (gX12_letterPlace hst fu s16 a0 a1 a2 a3) rfl rfl (by decide) rfl rfl ⟨by decide, by decide, by decide, by decide, Nat.le_of_ble_eq_true rfl⟩ rfl (fun x19 s18 => ?_)
        refine G_fg (lv2 := [vU, vU, vU, vU, vU]) ⟨Or.inl rfl, Or.inl rfl, Or.inl rfl, Or.inl rfl, Or.inl rfl, trivial⟩ ?_
        exact gX12_reading_J123 hst fu s18 x19
      · refine G_aload_n (x := a0) (pc := 106) dX12_reading_106 rfl ?_
        refine G_iload_n (x := a1) (pc := 107) dX12_reading_107 rfl ?_
        refine G_iload_n (x := a2) (pc := 108) dX12_reading_108 rfl ?_
        refine G_iload_n (x := a3) (pc := 109) dX12_reading_109 rfl ?_
        refine G_callVI (as := [vI a1, vI a2, vI a3]) (st := []) (c := 12) (bc2 := 0) (bs2 := 0) (pc := 110) dX12_reading_110 z_mX12_letterAt z_vX12_letterAt z_wX12_396 (gX12_letterAt hst fu s16 a0 a1 a2 a3) rfl rfl (by decide) rfl rfl ⟨by decide, by decide, by decide, by decide, Nat.le_of_ble_eq_true rfl⟩ rfl (fun x21 s20 => ?_)
        refine G_goto (tgt := 123) (pc := 113) dX12_reading_113 ?_
        refine G_fg (lv2 := [vU, vU, vU, vU, vU]) ⟨Or.inl rfl, Or.inl rfl, Or.inl rfl, Or.inl rfl, Or.inl rfl, trivial⟩ ?_
        exact gX12_reading_J123 hst fu s20 x21
    · refine G_iload (x := a4) (pc := 88) dX12_reading_88 rfl ?_
      refine G_if_ne (tgt := 97) (pc := 90) dX12_reading_90 ?_ ?_
      · refine G_sipush (pc := 97) dX12_reading_97 ?_
        refine G_fg (lv2 := [vU, vU, vU, vU, vU]) ⟨Or.inl rfl, Or.inl rfl, Or.inl rfl, Or.inl rfl, Or.inl rfl, trivial⟩ ?_
        exact gX12_reading_J100 hst fu s16 (-1000)
      · refine G_iconst (pc := 93) dX12_reading_93 ?_
        refine G_goto (tgt := 100) (pc := 94) dX12_reading_94 ?_
        refine G_fg (lv2 := [vU, vU, vU, vU, vU]) ⟨Or.inl rfl, Or.inl rfl, Or.inl rfl, Or.inl rfl, Or.inl rfl, trivial⟩ ?_
        exact gX12_reading_J100 hst fu s16 (-1)
  · refine G_fg (lv2 := [vU, vU, vU, vU, vU]) ⟨Or.inl rfl, Or.inl rfl, Or.inl rfl, Or.inl rfl, Or.inl rfl, trivial⟩ ?_
    exact gX12_reading_J70 hst fu s11
def fX12_reading_J57 (fu : Nat) (s : z_M) (a0 : Int) (a1 : Int) (a2 : Int) (a3 : Int) (a4 : Int) (t0 : Int) : z_O := fX12_reading_J62 fu s a0 a1 a2 a3 a4 t0 1
theorem gX12_reading_J57 {l : Launch} {K : z_K} (hst : l.stackTraces = false) (fu : Nat) (s : z_M) (a0 : Int) (a1 : Int) (a2 : Int) (a3 : Int) (a4 : Int) (t0 : Int) : G l K mX12_reading 11 250 0 0 57 [vR a0, vI a1, vI a2, vI a3, vI a4] [vR t0] s (fX12_reading_J57 fu s a0 a1 a2 a3 a4 t0) := by
  unfold fX12_reading_J57
  refine G_iconst (pc := 57) dX12_reading_57 ?_
  refine G_goto (tgt := 62) (pc := 58) dX12_reading_58 ?_
  exact gX12_reading_J62 hst fu s a0 a1 a2 a3 a4 t0 1
def fX12_reading_J29 (fu : Nat) (s : z_M) (a0 : Int) (a1 : Int) (a2 : Int) (a3 : Int) (a4 : Int) (t0 : Int) (t1 : Int) : z_O := if z_ob t0 12 then z_bI (fX12_bad fu s t0 t1 1 0) (fun x8 s7 => if (x8 : Int) ≠ 0 then (fX12_reading_J70 fu s7) else (z_bI (fX12_in fu s7 a2 0 1) (fun x10 s9 => if (x10 : Int) = 0 then (fX12_reading_J57 fu s9 a0 a1 a2 a3 a4 a0) else (z_bI (fX12_in fu s9 a4 0 1) (fun x23 s22 => if (x23 : Int) ≠ 0 then (fX12_reading_J62 fu s22 a0 a1 a2 a3 a4 a0 0) else (fX12_reading_J57 fu s22 a0 a1 a2 a3 a4 a0)))))) else none
theorem gX12_reading_J29 {l : Launch} {K : z_K} (hst : l.stackTraces = false) (fu : Nat) (s : z_M) (a0 : Int) (a1 : Int) (a2 : Int) (a3 : Int) (a4 : Int) (t0 : Int) (t1 : Int) : G l K mX12_reading 11 250 0 0 29 [vR a0, vI a1, vI a2, vI a3, vI a4] [vI t1, vR t0] s (fX12_reading_J29 fu s a0 a1 a2 a3 a4 t0 t1) := by
  unfold fX12_reading_J29
  refine G_iconst (pc := 29) dX12_reading_29 ?_
  refine G_iconst (pc := 30) dX12_reading_30 ?_
  refine G_callVI (as := [vI t1, vI 1, vI 0]) (st := []) (c := 12) (bc2 := 0) (bs2 := 0) (pc := 31) dX12_reading_31 z_mX12_bad z_vX12_bad z_wX12_249 (gX12_bad hst fu s t0 t1 1 0) rfl rfl (by decide) rfl rfl ⟨by decide, by decide, by decide, by decide, Nat.le_of_ble_eq_true rfl⟩ rfl (fun x8 s7 => ?_)
  refine G_if_ne (tgt := 70) (pc := 34) dX12_reading_34 ?_ ?_
  · refine G_fg (lv2 := [vU, vU, vU, vU, vU]) ⟨Or.inl rfl, Or.inl rfl, Or.inl rfl, Or.inl rfl, Or.inl rfl, trivial⟩ ?_
    exact gX12_reading_J70 hst fu s7
  · refine G_aload_n (x := a0) (pc := 37) dX12_reading_37 rfl ?_
    refine G_iload_n (x := a2) (pc := 38) dX12_reading_38 rfl ?_
    refine G_iconst (pc := 39) dX12_reading_39 ?_
    refine G_iconst (pc := 40) dX12_reading_40 ?_
    refine G_callSI (as := [vI a2, vI 0, vI 1]) (st := [vR a0]) (bc2 := 0) (bs2 := 0) (pc := 41) dX12_reading_41 z_mX12_in z_sX12_in z_wX12_245 (gX12_in hst fu s7 a2 0 1) rfl rfl ⟨by decide, by decide, by decide, by decide, Nat.le_of_ble_eq_true rfl⟩ rfl (fun x10 s9 => ?_)
    refine G_if_eq (tgt := 57) (pc := 44) dX12_reading_44 ?_ ?_
    · exact gX12_reading_J57 hst fu s9 a0 a1 a2 a3 a4 a0
    · refine G_iload (x := a4) (pc := 47) dX12_reading_47 rfl ?_
      refine G_iconst (pc := 49) dX12_reading_49 ?_
      refine G_iconst (pc := 50) dX12_reading_50 ?_
      refine G_callSI (as := [vI a4, vI 0, vI 1]) (st := [vR a0]) (bc2 := 0) (bs2 := 0) (pc := 51) dX12_reading_51 z_mX12_in z_sX12_in z_wX12_245 (gX12_in hst fu s9 a4 0 1) rfl rfl ⟨by decide, by decide, by decide, by decide, Nat.le_of_ble_eq_true rfl⟩ rfl (fun x23 s22 => ?_)
      refine G_if_ne (tgt := 61) (pc := 54) dX12_reading_54 ?_ ?_
      · refine G_iconst (pc := 61) dX12_reading_61 ?_
        exact gX12_reading_J62 hst fu s22 a0 a1 a2 a3 a4 a0 0
      · exact gX12_reading_J57 hst fu s22 a0 a1 a2 a3 a4 a0
def fX12_reading (fu : Nat) (s : z_M) (a0 : Int) (a1 : Int) (a2 : Int) (a3 : Int) (a4 : Int) : z_O := if z_ob a0 12 then z_let (z_up s a0 0 0) (fun s1 => if z_ob a0 12 then z_bN (fX12_laysAll fu s1 a0) (fun s2 => if z_ob a0 12 then z_let (s2 a0 58) (fun x3 => z_let (z_w (x3 - 1)) (fun x4 => z_bI (fX12_in fu s2 a1 0 x4) (fun x6 s5 => if (x6 : Int) ≠ 0 then (fX12_reading_J29 fu s5 a0 a1 a2 a3 a4 a0 0) else (fX12_reading_J29 fu s5 a0 a1 a2 a3 a4 a0 1)))) else none) else none) else none
theorem gX12_reading {l : Launch} {K : z_K} (hst : l.stackTraces = false) (fu : Nat) (s : z_M) (a0 : Int) (a1 : Int) (a2 : Int) (a3 : Int) (a4 : Int) : z_D l K mX12_reading 11 250 0 0 [vR a0, vI a1, vI a2, vI a3, vI a4] s (fX12_reading fu s a0 a1 a2 a3 a4) := by
  refine z_D_of (lv := [vR a0, vI a1, vI a2, vI a3, vI a4]) hst z_mX12_reading rfl ?_ (Nat.le_of_ble_eq_true rfl) rfl
  unfold fX12_reading
  refine G_aload_n (x := a0) (pc := 0) dX12_reading_0 rfl ?_
  refine G_iconst (pc := 1) dX12_reading_1 ?_
  refine G_putI (j := 0) (pc := 2) dX12_reading_2 rfl z_CLX12 (by decide) z_wX12_170 rfl (by decide) (by decide) (fun s1 => ?_)
  refine G_aload_n (x := a0) (pc := 5) dX12_reading_5 rfl ?_
  refine G_callVN (as := []) (st := []) (c := 12) (bc2 := 0) (bs2 := 0) (pc := 6) dX12_reading_6 z_mX12_laysAll z_vX12_laysAll z_wX12_371 (gX12_laysAll hst fu s1 a0) rfl rfl (by decide) rfl rfl ⟨by decide, by decide, by decide, by decide, Nat.le_of_ble_eq_true rfl⟩ rfl (fun s2 => ?_)
  refine G_aload_n (x := a0) (pc := 9) dX12_reading_9 rfl ?_
  refine G_iload_n (x := a1) (pc := 10) dX12_reading_10 rfl ?_
  refine G_iconst (pc := 11) dX12_reading_11 ?_
  refine G_aload_n (x := a0) (pc := 12) dX12_reading_12 rfl ?_
  refine G_getI (j := 58) (pc := 13) dX12_reading_13 rfl z_CLX12 (by decide) z_wX12_359 (by decide) (fun x3 => ?_)
  refine G_iconst (pc := 16) dX12_reading_16 ?_
  refine G_isub (pc := 17) dX12_reading_17 (fun x4 => ?_)
  refine G_callSI (as := [vI a1, vI 0, vI x4]) (st := [vR a0]) (bc2 := 0) (bs2 := 0) (pc := 18) dX12_reading_18 z_mX12_in z_sX12_in z_wX12_245 (gX12_in hst fu s2 a1 0 x4) rfl rfl ⟨by decide, by decide, by decide, by decide, Nat.le_of_ble_eq_true rfl⟩ rfl (fun x6 s5 => ?_)
  refine G_if_ne (tgt := 28) (pc := 21) dX12_reading_21 ?_ ?_
  · refine G_iconst (pc := 28) dX12_reading_28 ?_
    exact gX12_reading_J29 hst fu s5 a0 a1 a2 a3 a4 a0 0
  · refine G_iconst (pc := 24) dX12_reading_24 ?_
    refine G_goto (tgt := 29) (pc := 25) dX12_reading_25 ?_
    exact gX12_reading_J29 hst fu s5 a0 a1 a2 a3 a4 a0 1
def fX12_run_L51 (fu : Nat) (a0 : Int) (a1 : Int) (a2 : Int) (a3 : Int) (a4 : Int) : Nat → z_M → Int → (z_M → Int → z_O) → z_O
  | 0, _, _, _ => none
  | F + 1, s, a5, k => z_let (z_w (a4 + a5)) (fun x9 => if z_ob a0 12 then z_let (z_gr a0 12) (fun x10 => if z_ix x10 103 0 then z_let (z_gr x10 0) (fun x11 => if z_ix x11 100 0 then z_let (s x11 0) (fun x12 => if (x12 : Int) ≤ x9 then (k s a5) else (z_let (z_w (a4 + a5)) (fun x13 => if z_ob a0 12 then z_bI (fX12_isTurned fu s a0 x13) (fun x15 s14 => if z_ob a0 12 then z_bI (fX12_isTurned fu s14 a0 a4) (fun x17 s16 => if (x15 : Int) ≠ x17 then (k s16 a5) else (z_let (z_w (a5 + 1)) (fun x18 => fX12_run_L51 fu a0 a1 a2 a3 a4 F s16 x18 k))) else none) else none))) else none) else none) else none)
theorem gX12_run_L51 {l : Launch} {K : z_K} (hst : l.stackTraces = false) (fu : Nat) (a0 : Int) (a1 : Int) (a2 : Int) (a3 : Int) (a4 : Int) (k : z_M → Int → z_O) (hk : ∀ (s : z_M) (a5 : Int), G l K mX12_run 2 43 0 0 91 [vR a0, vI a1, vI a2, vI a3, vI a4, vI a5] [] s (k s a5)) : ∀ (F : Nat) (s : z_M) (a5 : Int), G l K mX12_run 2 43 0 0 51 [vR a0, vI a1, vI a2, vI a3, vI a4, vI a5] [] s (fX12_run_L51 fu a0 a1 a2 a3 a4 F s a5 k) := by
  intro F
  induction F with
  | zero => exact fun s a5 h => absurd rfl h
  | succ F ih =>
    intro s a5
    rw [fX12_run_L51]
    refine G_iload (x := a4) (pc := 51) dX12_run_51 rfl ?_
    refine G_iload (x := a5) (pc := 53) dX12_run_53 rfl ?_
    refine G_iadd (pc := 55) dX12_run_55 (fun x9 => ?_)
    refine G_aload_n (x := a0) (pc := 56) dX12_run_56 rfl ?_
    refine G_getR (j := 12) (pc := 57) dX12_run_57 rfl z_CLX12 (by decide) z_wX12_31 (by decide) (fun x10 => ?_)
    refine G_iconst (pc := 60) dX12_run_60 ?_
    refine G_aald103 (pc := 61) dX12_run_61 (fun x11 => ?_)
    refine G_iconst (pc := 62) dX12_run_62 ?_
    refine G_iald (pc := 63) dX12_run_63 (fun x12 => ?_)
    refine G_icmp_ge (tgt := 91) (pc := 64) dX12_run_64 ?_ ?_
    · exact hk s a5
    · refine G_aload_n (x := a0) (pc := 67) dX12_run_67 rfl ?_
      refine G_iload (x := a4) (pc := 68) dX12_run_68 rfl ?_
      refine G_iload (x := a5) (pc := 70) dX12_run_70 rfl ?_
      refine G_iadd (pc := 72) dX12_run_72 (fun x13 => ?_)
      refine G_callVI (as := [vI x13]) (st := []) (c := 12) (bc2 := 0) (bs2 := 0) (pc := 73) dX12_run_73 z_mX12_isTurned z_vX12_isTurned z_wX12_387 (gX12_isTurned hst fu s a0 x13) rfl rfl (by decide) rfl rfl ⟨by decide, by decide, by decide, by decide, Nat.le_of_ble_eq_true rfl⟩ rfl (fun x15 s14 => ?_)
      refine G_aload_n (x := a0) (pc := 76) dX12_run_76 rfl ?_
      refine G_iload (x := a4) (pc := 77) dX12_run_77 rfl ?_
      refine G_callVI (as := [vI a4]) (st := [vI x15]) (c := 12) (bc2 := 0) (bs2 := 0) (pc := 79) dX12_run_79 z_mX12_isTurned z_vX12_isTurned z_wX12_387 (gX12_isTurned hst fu s14 a0 a4) rfl rfl (by decide) rfl rfl ⟨by decide, by decide, by decide, by decide, Nat.le_of_ble_eq_true rfl⟩ rfl (fun x17 s16 => ?_)
      refine G_icmp_ne (tgt := 91) (pc := 82) dX12_run_82 ?_ ?_
      · exact hk s16 a5
      · refine G_iinc (x := a5) (g := fun x18 => [vR a0, vI a1, vI a2, vI a3, vI a4, vI x18]) (pc := 85) dX12_run_85 rfl (fun _ => rfl) (fun x18 => ?_)
        refine G_goto (tgt := 51) (pc := 88) dX12_run_88 ?_
        exact ih s16 x18
def fX12_run_J132 (fu : Nat) (s : z_M) (t0 : Int) (r : z_M → Int → Int → z_O) (k : z_M → z_O) : z_O := some (vI t0, s)
theorem gX12_run_J132 {l : Launch} {K : z_K} (hst : l.stackTraces = false) (fu : Nat) (s : z_M) (a0 : Int) (a1 : Int) (a2 : Int) (t0 : Int) (r : z_M → Int → Int → z_O) (k : z_M → z_O) (hr : ∀ (s : z_M) (a3 : Int) (a4 : Int), G l K mX12_run 2 43 0 0 35 [vR a0, vI a1, vI a2, vI a3, vI a4, vU] [] s (r s a3 a4)) (hk : ∀ (s : z_M), G l K mX12_run 2 43 0 0 143 [vU, vU, vU, vU, vU, vU] [] s (k s)) : G l K mX12_run 2 43 0 0 132 [vU, vU, vU, vU, vU, vU] [vI t0] s (fX12_run_J132 fu s t0 r k) := by
  unfold fX12_run_J132
  exact G_iret (pc := 132) dX12_run_132
def fX12_run_J91 (fu : Nat) (s : z_M) (a0 : Int) (a1 : Int) (a2 : Int) (a3 : Int) (a4 : Int) (a5 : Int) (r : z_M → Int → Int → z_O) (k : z_M → z_O) : z_O := z_let (z_w (a3 + 1)) (fun x21 => if (x21 : Int) ≠ a1 then (z_let (z_w (a4 + a5)) (fun x22 => r s x21 x22)) else (if (a2 : Int) ≠ 0 then (if (a2 : Int) ≠ 1 then (if z_ob a0 12 then z_bI (fX12_isTurned fu s a0 a4) (fun x24 s23 => if (x24 : Int) = 0 then (fX12_run_J132 fu s23 0 (fun w v3 v4 => r w v3 v4) k) else (fX12_run_J132 fu s23 1 (fun w v3 v4 => r w v3 v4) k)) else none) else (fX12_run_J132 fu s a5 (fun w v3 v4 => r w v3 v4) k)) else (fX12_run_J132 fu s a4 (fun w v3 v4 => r w v3 v4) k)))
theorem gX12_run_J91 {l : Launch} {K : z_K} (hst : l.stackTraces = false) (fu : Nat) (s : z_M) (a0 : Int) (a1 : Int) (a2 : Int) (a3 : Int) (a4 : Int) (a5 : Int) (r : z_M → Int → Int → z_O) (k : z_M → z_O) (hr : ∀ (s : z_M) (a3 : Int) (a4 : Int), G l K mX12_run 2 43 0 0 35 [vR a0, vI a1, vI a2, vI a3, vI a4, vU] [] s (r s a3 a4)) (hk : ∀ (s : z_M), G l K mX12_run 2 43 0 0 143 [vU, vU, vU, vU, vU, vU] [] s (k s)) : G l K mX12_run 2 43 0 0 91 [vR a0, vI a1, vI a2, vI a3, vI a4, vI a5] [] s (fX12_run_J91 fu s a0 a1 a2 a3 a4 a5 r k) := by
  unfold fX12_run_J91
  refine G_iinc (x := a3) (g := fun x21 => [vR a0, vI a1, vI a2, vI x21, vI a4, vI a5]) (pc := 91) dX12_run_91 rfl (fun _ => rfl) (fun x21 => ?_)
  refine G_iload_n (x := x21) (pc := 94) dX12_run_94 rfl ?_
  refine G_iload_n (x := a1) (pc := 95) dX12_run_95 rfl ?_
  refine G_icmp_ne (tgt := 133) (pc := 96) dX12_run_96 ?_ ?_
  · refine G_iload (x := a4) (pc := 133) dX12_run_133 rfl ?_
    refine G_iload (x := a5) (pc := 135) dX12_run_135 rfl ?_
    refine G_iadd (pc := 137) dX12_run_137 (fun x22 => ?_)
    refine G_istore (lv' := [vR a0, vI a1, vI a2, vI x21, vI x22, vI a5]) (pc := 138) dX12_run_138 rfl ?_
    refine G_goto (tgt := 35) (pc := 140) dX12_run_140 ?_
    refine G_fg (lv2 := [vR a0, vI a1, vI a2, vI x21, vI x22, vU]) ⟨Or.inr rfl, Or.inr rfl, Or.inr rfl, Or.inr rfl, Or.inr rfl, Or.inl rfl, trivial⟩ ?_
    exact hr s x21 x22
  · refine G_iload_n (x := a2) (pc := 99) dX12_run_99 rfl ?_
    refine G_if_ne (tgt := 108) (pc := 100) dX12_run_100 ?_ ?_
    · refine G_iload_n (x := a2) (pc := 108) dX12_run_108 rfl ?_
      refine G_iconst (pc := 109) dX12_run_109 ?_
      refine G_icmp_ne (tgt := 118) (pc := 110) dX12_run_110 ?_ ?_
      · refine G_aload_n (x := a0) (pc := 118) dX12_run_118 rfl ?_
        refine G_iload (x := a4) (pc := 119) dX12_run_119 rfl ?_
        refine G_callVI (as := [vI a4]) (st := []) (c := 12) (bc2 := 0) (bs2 := 0) (pc := 121) dX12_run_121 z_mX12_isTurned z_vX12_isTurned z_wX12_387 (gX12_isTurned hst fu s a0 a4) rfl rfl (by decide) rfl rfl ⟨by decide, by decide, by decide, by decide, Nat.le_of_ble_eq_true rfl⟩ rfl (fun x24 s23 => ?_)
        refine G_if_eq (tgt := 131) (pc := 124) dX12_run_124 ?_ ?_
        · refine G_iconst (pc := 131) dX12_run_131 ?_
          refine G_fg (lv2 := [vU, vU, vU, vU, vU, vU]) ⟨Or.inl rfl, Or.inl rfl, Or.inl rfl, Or.inl rfl, Or.inl rfl, Or.inl rfl, trivial⟩ ?_
          exact gX12_run_J132 hst fu s23 a0 a1 a2 0 _ _ (fun w v3 v4 => hr w v3 v4) hk
        · refine G_iconst (pc := 127) dX12_run_127 ?_
          refine G_goto (tgt := 132) (pc := 128) dX12_run_128 ?_
          refine G_fg (lv2 := [vU, vU, vU, vU, vU, vU]) ⟨Or.inl rfl, Or.inl rfl, Or.inl rfl, Or.inl rfl, Or.inl rfl, Or.inl rfl, trivial⟩ ?_
          exact gX12_run_J132 hst fu s23 a0 a1 a2 1 _ _ (fun w v3 v4 => hr w v3 v4) hk
      · refine G_iload (x := a5) (pc := 113) dX12_run_113 rfl ?_
        refine G_goto (tgt := 132) (pc := 115) dX12_run_115 ?_
        refine G_fg (lv2 := [vU, vU, vU, vU, vU, vU]) ⟨Or.inl rfl, Or.inl rfl, Or.inl rfl, Or.inl rfl, Or.inl rfl, Or.inl rfl, trivial⟩ ?_
        exact gX12_run_J132 hst fu s a0 a1 a2 a5 _ _ (fun w v3 v4 => hr w v3 v4) hk
    · refine G_iload (x := a4) (pc := 103) dX12_run_103 rfl ?_
      refine G_goto (tgt := 132) (pc := 105) dX12_run_105 ?_
      refine G_fg (lv2 := [vU, vU, vU, vU, vU, vU]) ⟨Or.inl rfl, Or.inl rfl, Or.inl rfl, Or.inl rfl, Or.inl rfl, Or.inl rfl, trivial⟩ ?_
      exact gX12_run_J132 hst fu s a0 a1 a2 a4 _ _ (fun w v3 v4 => hr w v3 v4) hk
def fX12_run_L35 (fu : Nat) (a0 : Int) (a1 : Int) (a2 : Int) : Nat → z_M → Int → Int → (z_M → z_O) → z_O
  | 0, _, _, _, _ => none
  | F + 1, s, a3, a4, k => if z_ob a0 12 then z_let (z_gr a0 12) (fun x6 => if z_ix x6 103 0 then z_let (z_gr x6 0) (fun x7 => if z_ix x7 100 0 then z_let (s x7 0) (fun x8 => if (x8 : Int) ≤ a4 then (k s) else (fX12_run_L51 fu a0 a1 a2 a3 a4 fu s 1 (fun s19 x20 => fX12_run_J91 fu s19 a0 a1 a2 a3 a4 x20 (fun w v3 v4 => fX12_run_L35 fu a0 a1 a2 F w v3 v4 k) k))) else none) else none) else none
theorem gX12_run_L35 {l : Launch} {K : z_K} (hst : l.stackTraces = false) (fu : Nat) (a0 : Int) (a1 : Int) (a2 : Int) (k : z_M → z_O) (hk : ∀ (s : z_M), G l K mX12_run 2 43 0 0 143 [vU, vU, vU, vU, vU, vU] [] s (k s)) : ∀ (F : Nat) (s : z_M) (a3 : Int) (a4 : Int), G l K mX12_run 2 43 0 0 35 [vR a0, vI a1, vI a2, vI a3, vI a4, vU] [] s (fX12_run_L35 fu a0 a1 a2 F s a3 a4 k) := by
  intro F
  induction F with
  | zero => exact fun s a3 a4 h => absurd rfl h
  | succ F ih =>
    intro s a3 a4
    rw [fX12_run_L35]
    refine G_iload (x := a4) (pc := 35) dX12_run_35 rfl ?_
    refine G_aload_n (x := a0) (pc := 37) dX12_run_37 rfl ?_
    refine G_getR (j := 12) (pc := 38) dX12_run_38 rfl z_CLX12 (by decide) z_wX12_31 (by decide) (fun x6 => ?_)
    refine G_iconst (pc := 41) dX12_run_41 ?_
    refine G_aald103 (pc := 42) dX12_run_42 (fun x7 => ?_)
    refine G_iconst (pc := 43) dX12_run_43 ?_
    refine G_iald (pc := 44) dX12_run_44 (fun x8 => ?_)
    refine G_icmp_ge (tgt := 143) (pc := 45) dX12_run_45 ?_ ?_
    · refine G_fg (lv2 := [vU, vU, vU, vU, vU, vU]) ⟨Or.inl rfl, Or.inl rfl, Or.inl rfl, Or.inl rfl, Or.inl rfl, Or.inl rfl, trivial⟩ ?_
      exact hk s
    · refine G_iconst (pc := 48) dX12_run_48 ?_
      refine G_istore (lv' := [vR a0, vI a1, vI a2, vI a3, vI a4, vI 1]) (pc := 49) dX12_run_49 rfl ?_
      refine gX12_run_L51 hst fu a0 a1 a2 a3 a4 _ (fun s19 x20 => ?_) fu s 1
      exact gX12_run_J91 hst fu s19 a0 a1 a2 a3 a4 x20 _ _ (fun w v3 v4 => ih w v3 v4) hk
def fX12_run_J20 (fu : Nat) (s : z_M) (a0 : Int) (a1 : Int) (a2 : Int) (t0 : Int) (t1 : Int) : z_O := if z_ob t0 12 then z_bI (fX12_bad fu s t0 t1 1 1) (fun x5 s4 => if (x5 : Int) = 0 then (fX12_run_L35 fu a0 a1 a2 fu s4 (-1) 0 (fun s25 => some (vI (-1), s25))) else (some (vI 0, s4))) else none
theorem gX12_run_J20 {l : Launch} {K : z_K} (hst : l.stackTraces = false) (fu : Nat) (s : z_M) (a0 : Int) (a1 : Int) (a2 : Int) (t0 : Int) (t1 : Int) : G l K mX12_run 2 43 0 0 20 [vR a0, vI a1, vI a2, vU, vU, vU] [vI t1, vR t0] s (fX12_run_J20 fu s a0 a1 a2 t0 t1) := by
  unfold fX12_run_J20
  refine G_iconst (pc := 20) dX12_run_20 ?_
  refine G_iconst (pc := 21) dX12_run_21 ?_
  refine G_callVI (as := [vI t1, vI 1, vI 1]) (st := []) (c := 12) (bc2 := 0) (bs2 := 0) (pc := 22) dX12_run_22 z_mX12_bad z_vX12_bad z_wX12_249 (gX12_bad hst fu s t0 t1 1 1) rfl rfl (by decide) rfl rfl ⟨by decide, by decide, by decide, by decide, Nat.le_of_ble_eq_true rfl⟩ rfl (fun x5 s4 => ?_)
  refine G_if_eq (tgt := 30) (pc := 25) dX12_run_25 ?_ ?_
  · refine G_iconst (pc := 30) dX12_run_30 ?_
    refine G_istore_n (lv' := [vR a0, vI a1, vI a2, vI (-1), vU, vU]) (pc := 31) dX12_run_31 rfl ?_
    refine G_iconst (pc := 32) dX12_run_32 ?_
    refine G_istore (lv' := [vR a0, vI a1, vI a2, vI (-1), vI 0, vU]) (pc := 33) dX12_run_33 rfl ?_
    refine gX12_run_L35 hst fu a0 a1 a2 _ (fun s25 => ?_) fu s4 (-1) 0
    refine G_iconst (pc := 143) dX12_run_143 ?_
    exact G_iret (pc := 144) dX12_run_144
  · refine G_iconst (pc := 28) dX12_run_28 ?_
    exact G_iret (pc := 29) dX12_run_29
def fX12_run (fu : Nat) (s : z_M) (a0 : Int) (a1 : Int) (a2 : Int) : z_O := if z_ob a0 12 then z_let (z_up s a0 0 0) (fun s1 => z_bI (fX12_in fu s1 a2 0 2) (fun x3 s2 => if (x3 : Int) ≠ 0 then (fX12_run_J20 fu s2 a0 a1 a2 a0 0) else (fX12_run_J20 fu s2 a0 a1 a2 a0 1))) else none
theorem gX12_run {l : Launch} {K : z_K} (hst : l.stackTraces = false) (fu : Nat) (s : z_M) (a0 : Int) (a1 : Int) (a2 : Int) : z_D l K mX12_run 2 43 0 0 [vR a0, vI a1, vI a2] s (fX12_run fu s a0 a1 a2) := by
  refine z_D_of (lv := [vR a0, vI a1, vI a2, vU, vU, vU]) hst z_mX12_run rfl ?_ (Nat.le_of_ble_eq_true rfl) rfl
  unfold fX12_run
  refine G_aload_n (x := a0) (pc := 0) dX12_run_0 rfl ?_
  refine G_iconst (pc := 1) dX12_run_1 ?_
  refine G_putI (j := 0) (pc := 2) dX12_run_2 rfl z_CLX12 (by decide) z_wX12_170 rfl (by decide) (by decide) (fun s1 => ?_)
  refine G_aload_n (x := a0) (pc := 5) dX12_run_5 rfl ?_
  refine G_iload_n (x := a2) (pc := 6) dX12_run_6 rfl ?_
  refine G_iconst (pc := 7) dX12_run_7 ?_
  refine G_iconst (pc := 8) dX12_run_8 ?_
  refine G_callSI (as := [vI a2, vI 0, vI 2]) (st := [vR a0]) (bc2 := 0) (bs2 := 0) (pc := 9) dX12_run_9 z_mX12_in z_sX12_in z_wX12_245 (gX12_in hst fu s1 a2 0 2) rfl rfl ⟨by decide, by decide, by decide, by decide, Nat.le_of_ble_eq_true rfl⟩ rfl (fun x3 s2 => ?_)
  refine G_if_ne (tgt := 19) (pc := 12) dX12_run_12 ?_ ?_
  · refine G_iconst (pc := 19) dX12_run_19 ?_
    exact gX12_run_J20 hst fu s2 a0 a1 a2 a0 0
  · refine G_iconst (pc := 15) dX12_run_15 ?_
    refine G_goto (tgt := 20) (pc := 16) dX12_run_16 ?_
    exact gX12_run_J20 hst fu s2 a0 a1 a2 a0 1
