/-! FUNCTIONS, further (by program) -/
def fX12_readsGroup_J76 (fu : Nat) (s : z_M) (a0 : Int) (a1 : Int) (a2 : Int) (r : z_M → Int → z_O) (k : z_M → z_O) : z_O := z_let (z_w (a2 + 1)) (fun x16 => r s x16)
theorem gX12_readsGroup_J76 {l : Launch} {K : z_K} (hst : l.stackTraces = false) (fu : Nat) (s : z_M) (a0 : Int) (a1 : Int) (a2 : Int) (r : z_M → Int → z_O) (k : z_M → z_O) (hr : ∀ (s : z_M) (a2 : Int), G l K mX12_readsGroup 3 68 0 0 24 [vR a0, vI a1, vI a2] [] s (r s a2)) (hk : ∀ (s : z_M), G l K mX12_readsGroup 3 68 0 0 82 [vR a0, vU, vU] [] s (k s)) : G l K mX12_readsGroup 3 68 0 0 76 [vR a0, vI a1, vI a2] [] s (fX12_readsGroup_J76 fu s a0 a1 a2 r k) := by
  unfold fX12_readsGroup_J76
  refine G_iinc (x := a2) (g := fun x16 => [vR a0, vI a1, vI x16]) (pc := 76) dX12_readsGroup_76 rfl (fun _ => rfl) (fun x16 => ?_)
  refine G_goto (tgt := 24) (pc := 79) dX12_readsGroup_79 ?_
  exact hr s x16
def fX12_readsGroup_J64 (fu : Nat) (s : z_M) (a0 : Int) (a1 : Int) (a2 : Int) (r : z_M → Int → z_O) (k : z_M → z_O) : z_O := if z_ob a0 12 then z_bI (fX12_fine fu s a0) (fun x15 s14 => if (x15 : Int) = 0 then (fX12_readsGroup_J76 fu s14 a0 a1 a2 (fun w v2 => r w v2) k) else (if z_ob a0 12 then z_bN (fX12_readsBase fu s14 a0 a1) (fun s17 => fX12_readsGroup_J76 fu s17 a0 a1 a2 (fun w v2 => r w v2) k) else none)) else none
theorem gX12_readsGroup_J64 {l : Launch} {K : z_K} (hst : l.stackTraces = false) (fu : Nat) (s : z_M) (a0 : Int) (a1 : Int) (a2 : Int) (r : z_M → Int → z_O) (k : z_M → z_O) (hr : ∀ (s : z_M) (a2 : Int), G l K mX12_readsGroup 3 68 0 0 24 [vR a0, vI a1, vI a2] [] s (r s a2)) (hk : ∀ (s : z_M), G l K mX12_readsGroup 3 68 0 0 82 [vR a0, vU, vU] [] s (k s)) : G l K mX12_readsGroup 3 68 0 0 64 [vR a0, vI a1, vI a2] [] s (fX12_readsGroup_J64 fu s a0 a1 a2 r k) := by
  unfold fX12_readsGroup_J64
  refine G_aload_n (x := a0) (pc := 64) dX12_readsGroup_64 rfl ?_
  refine G_callVI (as := []) (st := []) (c := 12) (bc2 := 0) (bs2 := 0) (pc := 65) dX12_readsGroup_65 z_mX12_fine z_vX12_fine z_wX12_199 (gX12_fine hst fu s a0) rfl rfl (by decide) rfl rfl ⟨by decide, by decide, by decide, by decide, Nat.le_of_ble_eq_true rfl⟩ rfl (fun x15 s14 => ?_)
  refine G_if_eq (tgt := 76) (pc := 68) dX12_readsGroup_68 ?_ ?_
  · exact gX12_readsGroup_J76 hst fu s14 a0 a1 a2 _ _ (fun w v2 => hr w v2) hk
  · refine G_aload_n (x := a0) (pc := 71) dX12_readsGroup_71 rfl ?_
    refine G_iload_n (x := a1) (pc := 72) dX12_readsGroup_72 rfl ?_
    refine G_callVN (as := [vI a1]) (st := []) (c := 12) (bc2 := 0) (bs2 := 0) (pc := 73) dX12_readsGroup_73 z_mX12_readsBase z_vX12_readsBase z_wX12_217 (gX12_readsBase hst fu s14 a0 a1) rfl rfl (by decide) rfl rfl ⟨by decide, by decide, by decide, by decide, Nat.le_of_ble_eq_true rfl⟩ rfl (fun s17 => ?_)
    exact gX12_readsGroup_J76 hst fu s17 a0 a1 a2 _ _ (fun w v2 => hr w v2) hk
def fX12_readsGroup_L24 (fu : Nat) (a0 : Int) (a1 : Int) : Nat → z_M → Int → (z_M → z_O) → z_O
  | 0, _, _, _ => none
  | F + 1, s, a2, k => if z_ob a0 12 then z_bI (fX12_fine fu s a0) (fun x8 s7 => if (x8 : Int) = 0 then (k s7) else (if z_ob a0 12 then z_bI (fX12_here fu s7 a0) (fun x10 s9 => if (x10 : Int) ≠ 59 then (k s9) else (if z_ob a0 12 then z_let (s9 a0 4) (fun x11 => z_let (z_w (x11 + 1)) (fun x12 => if z_ob a0 12 then z_let (z_up s9 a0 4 x12) (fun s13 => if (a2 : Int) ≠ 4 then (fX12_readsGroup_J64 fu s13 a0 a1 a2 (fun w v2 => fX12_readsGroup_L24 fu a0 a1 F w v2 k) k) else (if z_ob a0 12 then z_let (s13 a0 4) (fun x18 => if z_ob a0 12 then z_bN (fX12_wrong fu s13 a0 1 x18) (fun s19 => fX12_readsGroup_J64 fu s19 a0 a1 a2 (fun w v2 => fX12_readsGroup_L24 fu a0 a1 F w v2 k) k) else none) else none)) else none)) else none)) else none)) else none
theorem gX12_readsGroup_L24 {l : Launch} {K : z_K} (hst : l.stackTraces = false) (fu : Nat) (a0 : Int) (a1 : Int) (k : z_M → z_O) (hk : ∀ (s : z_M), G l K mX12_readsGroup 3 68 0 0 82 [vR a0, vU, vU] [] s (k s)) : ∀ (F : Nat) (s : z_M) (a2 : Int), G l K mX12_readsGroup 3 68 0 0 24 [vR a0, vI a1, vI a2] [] s (fX12_readsGroup_L24 fu a0 a1 F s a2 k) := by
  intro F
  induction F with
  | zero => exact fun s a2 h => absurd rfl h
  | succ F ih =>
    intro s a2
    rw [fX12_readsGroup_L24]
    refine G_aload_n (x := a0) (pc := 24) dX12_readsGroup_24 rfl ?_
    refine G_callVI (as := []) (st := []) (c := 12) (bc2 := 0) (bs2 := 0) (pc := 25) dX12_readsGroup_25 z_mX12_fine z_vX12_fine z_wX12_199 (gX12_fine hst fu s a0) rfl rfl (by decide) rfl rfl ⟨by decide, by decide, by decide, by decide, Nat.le_of_ble_eq_true rfl⟩ rfl (fun x8 s7 => ?_)
    refine G_if_eq (tgt := 82) (pc := 28) dX12_readsGroup_28 ?_ ?_
    · refine G_fg (lv2 := [vR a0, vU, vU]) ⟨Or.inr rfl, Or.inl rfl, Or.inl rfl, trivial⟩ ?_
      exact hk s7
    · refine G_aload_n (x := a0) (pc := 31) dX12_readsGroup_31 rfl ?_
      refine G_callVI (as := []) (st := []) (c := 12) (bc2 := 0) (bs2 := 0) (pc := 32) dX12_readsGroup_32 z_mX12_here z_vX12_here z_wX12_203 (gX12_here hst fu s7 a0) rfl rfl (by decide) rfl rfl ⟨by decide, by decide, by decide, by decide, Nat.le_of_ble_eq_true rfl⟩ rfl (fun x10 s9 => ?_)
      refine G_bipush (pc := 35) dX12_readsGroup_35 ?_
      refine G_icmp_ne (tgt := 82) (pc := 37) dX12_readsGroup_37 ?_ ?_
      · refine G_fg (lv2 := [vR a0, vU, vU]) ⟨Or.inr rfl, Or.inl rfl, Or.inl rfl, trivial⟩ ?_
        exact hk s9
      · refine G_aload_n (x := a0) (pc := 40) dX12_readsGroup_40 rfl ?_
        refine G_dupR (pc := 41) dX12_readsGroup_41 ?_
        refine G_getI (j := 4) (pc := 42) dX12_readsGroup_42 rfl z_CLX12 (by decide) z_wX12_176 (by decide) (fun x11 => ?_)
        refine G_iconst (pc := 45) dX12_readsGroup_45 ?_
        refine G_iadd (pc := 46) dX12_readsGroup_46 (fun x12 => ?_)
        refine G_putI (j := 4) (pc := 47) dX12_readsGroup_47 rfl z_CLX12 (by decide) z_wX12_176 rfl (by decide) (by decide) (fun s13 => ?_)
        refine G_iload_n (x := a2) (pc := 50) dX12_readsGroup_50 rfl ?_
        refine G_iconst (pc := 51) dX12_readsGroup_51 ?_
        refine G_icmp_ne (tgt := 64) (pc := 52) dX12_readsGroup_52 ?_ ?_
        · exact gX12_readsGroup_J64 hst fu s13 a0 a1 a2 _ _ (fun w v2 => ih w v2) hk
        · refine G_aload_n (x := a0) (pc := 55) dX12_readsGroup_55 rfl ?_
          refine G_iconst (pc := 56) dX12_readsGroup_56 ?_
          refine G_aload_n (x := a0) (pc := 57) dX12_readsGroup_57 rfl ?_
          refine G_getI (j := 4) (pc := 58) dX12_readsGroup_58 rfl z_CLX12 (by decide) z_wX12_176 (by decide) (fun x18 => ?_)
          refine G_callVN (as := [vI 1, vI x18]) (st := []) (c := 12) (bc2 := 0) (bs2 := 0) (pc := 61) dX12_readsGroup_61 z_mX12_wrong z_vX12_wrong z_wX12_195 (gX12_wrong hst fu s13 a0 1 x18) rfl rfl (by decide) rfl rfl ⟨by decide, by decide, by decide, by decide, Nat.le_of_ble_eq_true rfl⟩ rfl (fun s19 => ?_)
          exact gX12_readsGroup_J64 hst fu s19 a0 a1 a2 _ _ (fun w v2 => ih w v2) hk
def fX12_readsGroup_J107 (fu : Nat) (s : z_M) (a0 : Int) : z_O := if z_ob a0 12 then z_let (s a0 4) (fun x23 => z_let (z_w (x23 + 1)) (fun x24 => if z_ob a0 12 then z_let (z_up s a0 4 x24) (fun s25 => some (vN, s25)) else none)) else none
theorem gX12_readsGroup_J107 {l : Launch} {K : z_K} (hst : l.stackTraces = false) (fu : Nat) (s : z_M) (a0 : Int) : G l K mX12_readsGroup 3 68 0 0 107 [vR a0, vU, vU] [] s (fX12_readsGroup_J107 fu s a0) := by
  unfold fX12_readsGroup_J107
  refine G_aload_n (x := a0) (pc := 107) dX12_readsGroup_107 rfl ?_
  refine G_dupR (pc := 108) dX12_readsGroup_108 ?_
  refine G_getI (j := 4) (pc := 109) dX12_readsGroup_109 rfl z_CLX12 (by decide) z_wX12_176 (by decide) (fun x23 => ?_)
  refine G_iconst (pc := 112) dX12_readsGroup_112 ?_
  refine G_iadd (pc := 113) dX12_readsGroup_113 (fun x24 => ?_)
  refine G_putI (j := 4) (pc := 114) dX12_readsGroup_114 rfl z_CLX12 (by decide) z_wX12_176 rfl (by decide) (by decide) (fun s25 => ?_)
  exact G_vret (pc := 117) dX12_readsGroup_117
def fX12_readsGroup_J82 (fu : Nat) (s : z_M) (a0 : Int) : z_O := if z_ob a0 12 then z_bI (fX12_fine fu s a0) (fun x22 s21 => if (x22 : Int) = 0 then (fX12_readsGroup_J107 fu s21 a0) else (if z_ob a0 12 then z_bI (fX12_here fu s21 a0) (fun x27 s26 => if (x27 : Int) = 125 then (fX12_readsGroup_J107 fu s26 a0) else (if z_ob a0 12 then z_let (s26 a0 4) (fun x28 => if z_ob a0 12 then z_bN (fX12_wrong fu s26 a0 1 x28) (fun s29 => fX12_readsGroup_J107 fu s29 a0) else none) else none)) else none)) else none
theorem gX12_readsGroup_J82 {l : Launch} {K : z_K} (hst : l.stackTraces = false) (fu : Nat) (s : z_M) (a0 : Int) : G l K mX12_readsGroup 3 68 0 0 82 [vR a0, vU, vU] [] s (fX12_readsGroup_J82 fu s a0) := by
  unfold fX12_readsGroup_J82
  refine G_aload_n (x := a0) (pc := 82) dX12_readsGroup_82 rfl ?_
  refine G_callVI (as := []) (st := []) (c := 12) (bc2 := 0) (bs2 := 0) (pc := 83) dX12_readsGroup_83 z_mX12_fine z_vX12_fine z_wX12_199 (gX12_fine hst fu s a0) rfl rfl (by decide) rfl rfl ⟨by decide, by decide, by decide, by decide, Nat.le_of_ble_eq_true rfl⟩ rfl (fun x22 s21 => ?_)
  refine G_if_eq (tgt := 107) (pc := 86) dX12_readsGroup_86 ?_ ?_
  · exact gX12_readsGroup_J107 hst fu s21 a0
  · refine G_aload_n (x := a0) (pc := 89) dX12_readsGroup_89 rfl ?_
    refine G_callVI (as := []) (st := []) (c := 12) (bc2 := 0) (bs2 := 0) (pc := 90) dX12_readsGroup_90 z_mX12_here z_vX12_here z_wX12_203 (gX12_here hst fu s21 a0) rfl rfl (by decide) rfl rfl ⟨by decide, by decide, by decide, by decide, Nat.le_of_ble_eq_true rfl⟩ rfl (fun x27 s26 => ?_)
    refine G_bipush (pc := 93) dX12_readsGroup_93 ?_
    refine G_icmp_eq (tgt := 107) (pc := 95) dX12_readsGroup_95 ?_ ?_
    · exact gX12_readsGroup_J107 hst fu s26 a0
    · refine G_aload_n (x := a0) (pc := 98) dX12_readsGroup_98 rfl ?_
      refine G_iconst (pc := 99) dX12_readsGroup_99 ?_
      refine G_aload_n (x := a0) (pc := 100) dX12_readsGroup_100 rfl ?_
      refine G_getI (j := 4) (pc := 101) dX12_readsGroup_101 rfl z_CLX12 (by decide) z_wX12_176 (by decide) (fun x28 => ?_)
      refine G_callVN (as := [vI 1, vI x28]) (st := []) (c := 12) (bc2 := 0) (bs2 := 0) (pc := 104) dX12_readsGroup_104 z_mX12_wrong z_vX12_wrong z_wX12_195 (gX12_wrong hst fu s26 a0 1 x28) rfl rfl (by decide) rfl rfl ⟨by decide, by decide, by decide, by decide, Nat.le_of_ble_eq_true rfl⟩ rfl (fun s29 => ?_)
      exact gX12_readsGroup_J107 hst fu s29 a0
def fX12_readsGroup (fu : Nat) (s : z_M) (a0 : Int) : z_O := if z_ob a0 12 then z_bI (fX12_groupsOf fu s a0 13) (fun x2 s1 => if z_ob a0 12 then z_let (s1 a0 4) (fun x3 => z_let (z_w (x3 + 1)) (fun x4 => if z_ob a0 12 then z_let (z_up s1 a0 4 x4) (fun s5 => if z_ob a0 12 then z_bN (fX12_readsBase fu s5 a0 x2) (fun s6 => fX12_readsGroup_L24 fu a0 x2 fu s6 1 (fun s20 => fX12_readsGroup_J82 fu s20 a0)) else none) else none)) else none) else none
theorem gX12_readsGroup {l : Launch} {K : z_K} (hst : l.stackTraces = false) (fu : Nat) (s : z_M) (a0 : Int) : z_D l K mX12_readsGroup 3 68 0 0 [vR a0] s (fX12_readsGroup fu s a0) := by
  refine z_D_of (lv := [vR a0, vU, vU]) hst z_mX12_readsGroup rfl ?_ (Nat.le_of_ble_eq_true rfl) rfl
  unfold fX12_readsGroup
  refine G_aload_n (x := a0) (pc := 0) dX12_readsGroup_0 rfl ?_
  refine G_bipush (pc := 1) dX12_readsGroup_1 ?_
  refine G_callVI (as := [vI 13]) (st := []) (c := 12) (bc2 := 0) (bs2 := 0) (pc := 3) dX12_readsGroup_3 z_mX12_groupsOf z_vX12_groupsOf z_wX12_213 (gX12_groupsOf hst fu s a0 13) rfl rfl (by decide) rfl rfl ⟨by decide, by decide, by decide, by decide, Nat.le_of_ble_eq_true rfl⟩ rfl (fun x2 s1 => ?_)
  refine G_istore_n (lv' := [vR a0, vI x2, vU]) (pc := 6) dX12_readsGroup_6 rfl ?_
  refine G_iconst (pc := 7) dX12_readsGroup_7 ?_
  refine G_istore_n (lv' := [vR a0, vI x2, vI 1]) (pc := 8) dX12_readsGroup_8 rfl ?_
  refine G_aload_n (x := a0) (pc := 9) dX12_readsGroup_9 rfl ?_
  refine G_dupR (pc := 10) dX12_readsGroup_10 ?_
  refine G_getI (j := 4) (pc := 11) dX12_readsGroup_11 rfl z_CLX12 (by decide) z_wX12_176 (by decide) (fun x3 => ?_)
  refine G_iconst (pc := 14) dX12_readsGroup_14 ?_
  refine G_iadd (pc := 15) dX12_readsGroup_15 (fun x4 => ?_)
  refine G_putI (j := 4) (pc := 16) dX12_readsGroup_16 rfl z_CLX12 (by decide) z_wX12_176 rfl (by decide) (by decide) (fun s5 => ?_)
  refine G_aload_n (x := a0) (pc := 19) dX12_readsGroup_19 rfl ?_
  refine G_iload_n (x := x2) (pc := 20) dX12_readsGroup_20 rfl ?_
  refine G_callVN (as := [vI x2]) (st := []) (c := 12) (bc2 := 0) (bs2 := 0) (pc := 21) dX12_readsGroup_21 z_mX12_readsBase z_vX12_readsBase z_wX12_217 (gX12_readsBase hst fu s5 a0 x2) rfl rfl (by decide) rfl rfl ⟨by decide, by decide, by decide, by decide, Nat.le_of_ble_eq_true rfl⟩ rfl (fun s6 => ?_)
  refine gX12_readsGroup_L24 hst fu a0 x2 _ (fun s20 => ?_) fu s6 1
  exact gX12_readsGroup_J82 hst fu s20 a0
def fX12_readsPart_J94 (fu : Nat) (s : z_M) : z_O := some (vN, s)
theorem gX12_readsPart_J94 {l : Launch} {K : z_K} (hst : l.stackTraces = false) (fu : Nat) (s : z_M) : G l K mX12_readsPart 4 90 0 0 94 [vU, vU, vU] [] s (fX12_readsPart_J94 fu s) := by
  unfold fX12_readsPart_J94
  exact G_vret (pc := 94) dX12_readsPart_94
def fX12_readsPart_J57 (fu : Nat) (s : z_M) (a0 : Int) (t0 : Int) (t1 : Int) (t2 : Int) (t3 : Int) : z_O := z_let (z_xor t2 t3) (fun x8 => if z_ix t0 100 t1 then z_let (z_up s t0 t1 x8) (fun s9 => if z_ob a0 12 then z_let (s9 a0 4) (fun x10 => z_let (z_w (x10 + 1)) (fun x11 => if z_ob a0 12 then z_let (z_up s9 a0 4 x11) (fun s12 => fX12_readsPart_J94 fu s12) else none)) else none) else none)
theorem gX12_readsPart_J57 {l : Launch} {K : z_K} (hst : l.stackTraces = false) (fu : Nat) (s : z_M) (a0 : Int) (t0 : Int) (t1 : Int) (t2 : Int) (t3 : Int) : G l K mX12_readsPart 4 90 0 0 57 [vR a0, vU, vU] [vI t3, vI t2, vI t1, vR t0] s (fX12_readsPart_J57 fu s a0 t0 t1 t2 t3) := by
  unfold fX12_readsPart_J57
  refine G_ixor (pc := 57) dX12_readsPart_57 (fun x8 => ?_)
  refine G_iast (pc := 58) dX12_readsPart_58 (fun s9 => ?_)
  refine G_aload_n (x := a0) (pc := 59) dX12_readsPart_59 rfl ?_
  refine G_dupR (pc := 60) dX12_readsPart_60 ?_
  refine G_getI (j := 4) (pc := 61) dX12_readsPart_61 rfl z_CLX12 (by decide) z_wX12_176 (by decide) (fun x10 => ?_)
  refine G_iconst (pc := 64) dX12_readsPart_64 ?_
  refine G_iadd (pc := 65) dX12_readsPart_65 (fun x11 => ?_)
  refine G_putI (j := 4) (pc := 66) dX12_readsPart_66 rfl z_CLX12 (by decide) z_wX12_176 rfl (by decide) (by decide) (fun s12 => ?_)
  refine G_goto (tgt := 94) (pc := 69) dX12_readsPart_69 ?_
  refine G_fg (lv2 := [vU, vU, vU]) ⟨Or.inl rfl, Or.inl rfl, Or.inl rfl, trivial⟩ ?_
  exact gX12_readsPart_J94 hst fu s12
def fX12_readsPart_J36 (fu : Nat) (s : z_M) (a0 : Int) (a1 : Int) : z_O := if z_ob a0 12 then z_let (z_gr a0 12) (fun x5 => if z_ix x5 103 13 then z_let (z_gr x5 13) (fun x6 => if z_ix x6 100 2 then z_let (s x6 2) (fun x7 => if (a1 : Int) ≠ 42 then (fX12_readsPart_J57 fu s a0 x6 2 x7 2) else (fX12_readsPart_J57 fu s a0 x6 2 x7 1)) else none) else none) else none
theorem gX12_readsPart_J36 {l : Launch} {K : z_K} (hst : l.stackTraces = false) (fu : Nat) (s : z_M) (a0 : Int) (a1 : Int) : G l K mX12_readsPart 4 90 0 0 36 [vR a0, vI a1, vU] [] s (fX12_readsPart_J36 fu s a0 a1) := by
  unfold fX12_readsPart_J36
  refine G_aload_n (x := a0) (pc := 36) dX12_readsPart_36 rfl ?_
  refine G_getR (j := 12) (pc := 37) dX12_readsPart_37 rfl z_CLX12 (by decide) z_wX12_31 (by decide) (fun x5 => ?_)
  refine G_bipush (pc := 40) dX12_readsPart_40 ?_
  refine G_aald103 (pc := 42) dX12_readsPart_42 (fun x6 => ?_)
  refine G_iconst (pc := 43) dX12_readsPart_43 ?_
  refine G_dup2 (pc := 44) dX12_readsPart_44 ?_
  refine G_iald (pc := 45) dX12_readsPart_45 (fun x7 => ?_)
  refine G_iload_n (x := a1) (pc := 46) dX12_readsPart_46 rfl ?_
  refine G_bipush (pc := 47) dX12_readsPart_47 ?_
  refine G_icmp_ne (tgt := 56) (pc := 49) dX12_readsPart_49 ?_ ?_
  · refine G_iconst (pc := 56) dX12_readsPart_56 ?_
    refine G_fg (lv2 := [vR a0, vU, vU]) ⟨Or.inr rfl, Or.inl rfl, Or.inl rfl, trivial⟩ ?_
    exact gX12_readsPart_J57 hst fu s a0 x6 2 x7 2
  · refine G_iconst (pc := 52) dX12_readsPart_52 ?_
    refine G_goto (tgt := 57) (pc := 53) dX12_readsPart_53 ?_
    refine G_fg (lv2 := [vR a0, vU, vU]) ⟨Or.inr rfl, Or.inl rfl, Or.inl rfl, trivial⟩ ?_
    exact gX12_readsPart_J57 hst fu s a0 x6 2 x7 1
def fX12_readsPart (fu : Nat) (s : z_M) (a0 : Int) : z_O := if z_ob a0 12 then z_bI (fX12_here fu s a0) (fun x2 s1 => z_bI (fX12_plainKind fu s1 x2) (fun x4 s3 => if (x4 : Int) = (-1) then (if (x2 : Int) = 42 then (fX12_readsPart_J36 fu s3 a0 x2) else (if (x2 : Int) ≠ 95 then (if (x2 : Int) ≠ 123 then (if z_ob a0 12 then z_let (s3 a0 4) (fun x13 => if z_ob a0 12 then z_bN (fX12_wrong fu s3 a0 1 x13) (fun s14 => fX12_readsPart_J94 fu s14) else none) else none) else (if z_ob a0 12 then z_bN (fX12_readsGroup fu s3 a0) (fun s15 => fX12_readsPart_J94 fu s15) else none)) else (fX12_readsPart_J36 fu s3 a0 x2))) else (if z_ob a0 12 then z_bN (fX12_addsSign fu s3 a0 x4 (-1)) (fun s16 => fX12_readsPart_J94 fu s16) else none))) else none
theorem gX12_readsPart {l : Launch} {K : z_K} (hst : l.stackTraces = false) (fu : Nat) (s : z_M) (a0 : Int) : z_D l K mX12_readsPart 4 90 0 0 [vR a0] s (fX12_readsPart fu s a0) := by
  refine z_D_of (lv := [vR a0, vU, vU]) hst z_mX12_readsPart rfl ?_ (Nat.le_of_ble_eq_true rfl) rfl
  unfold fX12_readsPart
  refine G_aload_n (x := a0) (pc := 0) dX12_readsPart_0 rfl ?_
  refine G_callVI (as := []) (st := []) (c := 12) (bc2 := 0) (bs2 := 0) (pc := 1) dX12_readsPart_1 z_mX12_here z_vX12_here z_wX12_203 (gX12_here hst fu s a0) rfl rfl (by decide) rfl rfl ⟨by decide, by decide, by decide, by decide, Nat.le_of_ble_eq_true rfl⟩ rfl (fun x2 s1 => ?_)
  refine G_istore_n (lv' := [vR a0, vI x2, vU]) (pc := 4) dX12_readsPart_4 rfl ?_
  refine G_iload_n (x := x2) (pc := 5) dX12_readsPart_5 rfl ?_
  refine G_callSI (as := [vI x2]) (st := []) (bc2 := 0) (bs2 := 0) (pc := 6) dX12_readsPart_6 z_mX12_plainKind z_sX12_plainKind z_wX12_221 (gX12_plainKind hst fu s1 x2) rfl rfl ⟨by decide, by decide, by decide, by decide, Nat.le_of_ble_eq_true rfl⟩ rfl (fun x4 s3 => ?_)
  refine G_istore_n (lv' := [vR a0, vI x2, vI x4]) (pc := 9) dX12_readsPart_9 rfl ?_
  refine G_iload_n (x := x4) (pc := 10) dX12_readsPart_10 rfl ?_
  refine G_iconst (pc := 11) dX12_readsPart_11 ?_
  refine G_icmp_eq (tgt := 24) (pc := 12) dX12_readsPart_12 ?_ ?_
  · refine G_iload_n (x := x2) (pc := 24) dX12_readsPart_24 rfl ?_
    refine G_bipush (pc := 25) dX12_readsPart_25 ?_
    refine G_icmp_eq (tgt := 36) (pc := 27) dX12_readsPart_27 ?_ ?_
    · refine G_fg (lv2 := [vR a0, vI x2, vU]) ⟨Or.inr rfl, Or.inr rfl, Or.inl rfl, trivial⟩ ?_
      exact gX12_readsPart_J36 hst fu s3 a0 x2
    · refine G_iload_n (x := x2) (pc := 30) dX12_readsPart_30 rfl ?_
      refine G_bipush (pc := 31) dX12_readsPart_31 ?_
      refine G_icmp_ne (tgt := 72) (pc := 33) dX12_readsPart_33 ?_ ?_
      · refine G_iload_n (x := x2) (pc := 72) dX12_readsPart_72 rfl ?_
        refine G_bipush (pc := 73) dX12_readsPart_73 ?_
        refine G_icmp_ne (tgt := 85) (pc := 75) dX12_readsPart_75 ?_ ?_
        · refine G_aload_n (x := a0) (pc := 85) dX12_readsPart_85 rfl ?_
          refine G_iconst (pc := 86) dX12_readsPart_86 ?_
          refine G_aload_n (x := a0) (pc := 87) dX12_readsPart_87 rfl ?_
          refine G_getI (j := 4) (pc := 88) dX12_readsPart_88 rfl z_CLX12 (by decide) z_wX12_176 (by decide) (fun x13 => ?_)
          refine G_callVN (as := [vI 1, vI x13]) (st := []) (c := 12) (bc2 := 0) (bs2 := 0) (pc := 91) dX12_readsPart_91 z_mX12_wrong z_vX12_wrong z_wX12_195 (gX12_wrong hst fu s3 a0 1 x13) rfl rfl (by decide) rfl rfl ⟨by decide, by decide, by decide, by decide, Nat.le_of_ble_eq_true rfl⟩ rfl (fun s14 => ?_)
          refine G_fg (lv2 := [vU, vU, vU]) ⟨Or.inl rfl, Or.inl rfl, Or.inl rfl, trivial⟩ ?_
          exact gX12_readsPart_J94 hst fu s14
        · refine G_aload_n (x := a0) (pc := 78) dX12_readsPart_78 rfl ?_
          refine G_callVN (as := []) (st := []) (c := 12) (bc2 := 0) (bs2 := 0) (pc := 79) dX12_readsPart_79 z_mX12_readsGroup z_vX12_readsGroup z_wX12_224 (gX12_readsGroup hst fu s3 a0) rfl rfl (by decide) rfl rfl ⟨by decide, by decide, by decide, by decide, Nat.le_of_ble_eq_true rfl⟩ rfl (fun s15 => ?_)
          refine G_goto (tgt := 94) (pc := 82) dX12_readsPart_82 ?_
          refine G_fg (lv2 := [vU, vU, vU]) ⟨Or.inl rfl, Or.inl rfl, Or.inl rfl, trivial⟩ ?_
          exact gX12_readsPart_J94 hst fu s15
      · refine G_fg (lv2 := [vR a0, vI x2, vU]) ⟨Or.inr rfl, Or.inr rfl, Or.inl rfl, trivial⟩ ?_
        exact gX12_readsPart_J36 hst fu s3 a0 x2
  · refine G_aload_n (x := a0) (pc := 15) dX12_readsPart_15 rfl ?_
    refine G_iload_n (x := x4) (pc := 16) dX12_readsPart_16 rfl ?_
    refine G_iconst (pc := 17) dX12_readsPart_17 ?_
    refine G_callVN (as := [vI x4, vI (-1)]) (st := []) (c := 12) (bc2 := 0) (bs2 := 0) (pc := 18) dX12_readsPart_18 z_mX12_addsSign z_vX12_addsSign z_wX12_207 (gX12_addsSign hst fu s3 a0 x4 (-1)) rfl rfl (by decide) rfl rfl ⟨by decide, by decide, by decide, by decide, Nat.le_of_ble_eq_true rfl⟩ rfl (fun s16 => ?_)
    refine G_goto (tgt := 94) (pc := 21) dX12_readsPart_21 ?_
    refine G_fg (lv2 := [vU, vU, vU]) ⟨Or.inl rfl, Or.inl rfl, Or.inl rfl, trivial⟩ ?_
    exact gX12_readsPart_J94 hst fu s16
def fX12_copies_L2 (fu : Nat) (a0 : Int) (a1 : Int) (a2 : Int) : Nat → z_M → Int → (z_M → z_O) → z_O
  | 0, _, _, _ => none
  | F + 1, s, a3, k => if (3 : Int) ≤ a3 then (k s) else (if z_ob a0 12 then z_let (z_gr a0 12) (fun x1 => if z_ix x1 103 a2 then z_let (z_gr x1 a2) (fun x2 => if z_ob a0 12 then z_let (z_gr a0 12) (fun x3 => if z_ix x3 103 a1 then z_let (z_gr x3 a1) (fun x4 => if z_ix x4 100 a3 then z_let (s x4 a3) (fun x5 => if z_ix x2 100 a3 then z_let (z_up s x2 a3 x5) (fun s6 => z_let (z_w (a3 + 1)) (fun x7 => fX12_copies_L2 fu a0 a1 a2 F s6 x7 k)) else none) else none) else none) else none) else none) else none)
theorem gX12_copies_L2 {l : Launch} {K : z_K} (hst : l.stackTraces = false) (fu : Nat) (a0 : Int) (a1 : Int) (a2 : Int) (k : z_M → z_O) (hk : ∀ (s : z_M), G l K mX12_copies 0 0 0 0 29 [vR a0, vI a1, vI a2, vU, vU] [] s (k s)) : ∀ (F : Nat) (s : z_M) (a3 : Int), G l K mX12_copies 0 0 0 0 2 [vR a0, vI a1, vI a2, vI a3, vU] [] s (fX12_copies_L2 fu a0 a1 a2 F s a3 k) := by
  intro F
  induction F with
  | zero => exact fun s a3 h => absurd rfl h
  | succ F ih =>
    intro s a3
    rw [fX12_copies_L2]
    refine G_iload_n (x := a3) (pc := 2) dX12_copies_2 rfl ?_
    refine G_iconst (pc := 3) dX12_copies_3 ?_
    refine G_icmp_ge (tgt := 29) (pc := 4) dX12_copies_4 ?_ ?_
    · refine G_fg (lv2 := [vR a0, vI a1, vI a2, vU, vU]) ⟨Or.inr rfl, Or.inr rfl, Or.inr rfl, Or.inl rfl, Or.inl rfl, trivial⟩ ?_
      exact hk s
    · refine G_aload_n (x := a0) (pc := 7) dX12_copies_7 rfl ?_
      refine G_getR (j := 12) (pc := 8) dX12_copies_8 rfl z_CLX12 (by decide) z_wX12_31 (by decide) (fun x1 => ?_)
      refine G_iload_n (x := a2) (pc := 11) dX12_copies_11 rfl ?_
      refine G_aald103 (pc := 12) dX12_copies_12 (fun x2 => ?_)
      refine G_iload_n (x := a3) (pc := 13) dX12_copies_13 rfl ?_
      refine G_aload_n (x := a0) (pc := 14) dX12_copies_14 rfl ?_
      refine G_getR (j := 12) (pc := 15) dX12_copies_15 rfl z_CLX12 (by decide) z_wX12_31 (by decide) (fun x3 => ?_)
      refine G_iload_n (x := a1) (pc := 18) dX12_copies_18 rfl ?_
      refine G_aald103 (pc := 19) dX12_copies_19 (fun x4 => ?_)
      refine G_iload_n (x := a3) (pc := 20) dX12_copies_20 rfl ?_
      refine G_iald (pc := 21) dX12_copies_21 (fun x5 => ?_)
      refine G_iast (pc := 22) dX12_copies_22 (fun s6 => ?_)
      refine G_iinc (x := a3) (g := fun x7 => [vR a0, vI a1, vI a2, vI x7, vU]) (pc := 23) dX12_copies_23 rfl (fun _ => rfl) (fun x7 => ?_)
      refine G_goto (tgt := 2) (pc := 26) dX12_copies_26 ?_
      exact ih s6 x7
def fX12_copies_L121 (fu : Nat) (a0 : Int) (a1 : Int) (a2 : Int) (a3 : Int) : Nat → z_M → Int → (z_M → z_O) → z_O
  | 0, _, _, _ => none
  | F + 1, s, a4, k => if (20 : Int) ≤ a4 then (k s) else (if z_ob a0 12 then z_let (z_gr a0 12) (fun x39 => if z_ix x39 103 a1 then z_let (z_gr x39 a1) (fun x40 => if z_ix x40 100 1 then z_let (s x40 1) (fun x41 => if (x41 : Int) ≤ a3 then (k s) else (if z_ob a0 12 then z_let (z_gr a0 18) (fun x42 => if z_ix x42 105 a2 then z_let (z_gr x42 a2) (fun x43 => if z_ix x43 103 a3 then z_let (z_gr x43 a3) (fun x44 => if z_ob a0 12 then z_let (z_gr a0 18) (fun x45 => if z_ix x45 105 a1 then z_let (z_gr x45 a1) (fun x46 => if z_ix x46 103 a3 then z_let (z_gr x46 a3) (fun x47 => if z_ix x47 100 a4 then z_let (s x47 a4) (fun x48 => if z_ix x44 100 a4 then z_let (z_up s x44 a4 x48) (fun s49 => z_let (z_w (a4 + 1)) (fun x50 => fX12_copies_L121 fu a0 a1 a2 a3 F s49 x50 k)) else none) else none) else none) else none) else none) else none) else none) else none)) else none) else none) else none)
theorem gX12_copies_L121 {l : Launch} {K : z_K} (hst : l.stackTraces = false) (fu : Nat) (a0 : Int) (a1 : Int) (a2 : Int) (a3 : Int) (k : z_M → z_O) (hk : ∀ (s : z_M), G l K mX12_copies 0 0 0 0 168 [vR a0, vI a1, vI a2, vI a3, vU] [] s (k s)) : ∀ (F : Nat) (s : z_M) (a4 : Int), G l K mX12_copies 0 0 0 0 121 [vR a0, vI a1, vI a2, vI a3, vI a4] [] s (fX12_copies_L121 fu a0 a1 a2 a3 F s a4 k) := by
  intro F
  induction F with
  | zero => exact fun s a4 h => absurd rfl h
  | succ F ih =>
    intro s a4
    rw [fX12_copies_L121]
    refine G_iload (x := a4) (pc := 121) dX12_copies_121 rfl ?_
    refine G_bipush (pc := 123) dX12_copies_123 ?_
    refine G_icmp_ge (tgt := 168) (pc := 125) dX12_copies_125 ?_ ?_
    · refine G_fg (lv2 := [vR a0, vI a1, vI a2, vI a3, vU]) ⟨Or.inr rfl, Or.inr rfl, Or.inr rfl, Or.inr rfl, Or.inl rfl, trivial⟩ ?_
      exact hk s
    · refine G_iload_n (x := a3) (pc := 128) dX12_copies_128 rfl ?_
      refine G_aload_n (x := a0) (pc := 129) dX12_copies_129 rfl ?_
      refine G_getR (j := 12) (pc := 130) dX12_copies_130 rfl z_CLX12 (by decide) z_wX12_31 (by decide) (fun x39 => ?_)
      refine G_iload_n (x := a1) (pc := 133) dX12_copies_133 rfl ?_
      refine G_aald103 (pc := 134) dX12_copies_134 (fun x40 => ?_)
      refine G_iconst (pc := 135) dX12_copies_135 ?_
      refine G_iald (pc := 136) dX12_copies_136 (fun x41 => ?_)
      refine G_icmp_ge (tgt := 168) (pc := 137) dX12_copies_137 ?_ ?_
      · refine G_fg (lv2 := [vR a0, vI a1, vI a2, vI a3, vU]) ⟨Or.inr rfl, Or.inr rfl, Or.inr rfl, Or.inr rfl, Or.inl rfl, trivial⟩ ?_
        exact hk s
      · refine G_aload_n (x := a0) (pc := 140) dX12_copies_140 rfl ?_
        refine G_getR (j := 18) (pc := 141) dX12_copies_141 rfl z_CLX12 (by decide) z_wX12_51 (by decide) (fun x42 => ?_)
        refine G_iload_n (x := a2) (pc := 144) dX12_copies_144 rfl ?_
        refine G_aald105 (pc := 145) dX12_copies_145 (fun x43 => ?_)
        refine G_iload_n (x := a3) (pc := 146) dX12_copies_146 rfl ?_
        refine G_aald103 (pc := 147) dX12_copies_147 (fun x44 => ?_)
        refine G_iload (x := a4) (pc := 148) dX12_copies_148 rfl ?_
        refine G_aload_n (x := a0) (pc := 150) dX12_copies_150 rfl ?_
        refine G_getR (j := 18) (pc := 151) dX12_copies_151 rfl z_CLX12 (by decide) z_wX12_51 (by decide) (fun x45 => ?_)
        refine G_iload_n (x := a1) (pc := 154) dX12_copies_154 rfl ?_
        refine G_aald105 (pc := 155) dX12_copies_155 (fun x46 => ?_)
        refine G_iload_n (x := a3) (pc := 156) dX12_copies_156 rfl ?_
        refine G_aald103 (pc := 157) dX12_copies_157 (fun x47 => ?_)
        refine G_iload (x := a4) (pc := 158) dX12_copies_158 rfl ?_
        refine G_iald (pc := 160) dX12_copies_160 (fun x48 => ?_)
        refine G_iast (pc := 161) dX12_copies_161 (fun s49 => ?_)
        refine G_iinc (x := a4) (g := fun x50 => [vR a0, vI a1, vI a2, vI a3, vI x50]) (pc := 162) dX12_copies_162 rfl (fun _ => rfl) (fun x50 => ?_)
        refine G_goto (tgt := 121) (pc := 165) dX12_copies_165 ?_
        exact ih s49 x50
def fX12_copies_J168 (fu : Nat) (s : z_M) (a0 : Int) (a1 : Int) (a2 : Int) (a3 : Int) (r : z_M → Int → z_O) (k : z_M → z_O) : z_O := z_let (z_w (a3 + 1)) (fun x52 => r s x52)
theorem gX12_copies_J168 {l : Launch} {K : z_K} (hst : l.stackTraces = false) (fu : Nat) (s : z_M) (a0 : Int) (a1 : Int) (a2 : Int) (a3 : Int) (r : z_M → Int → z_O) (k : z_M → z_O) (hr : ∀ (s : z_M) (a3 : Int), G l K mX12_copies 0 0 0 0 31 [vR a0, vI a1, vI a2, vI a3, vU] [] s (r s a3)) (hk : ∀ (s : z_M), G l K mX12_copies 0 0 0 0 174 [vU, vU, vU, vU, vU] [] s (k s)) : G l K mX12_copies 0 0 0 0 168 [vR a0, vI a1, vI a2, vI a3, vU] [] s (fX12_copies_J168 fu s a0 a1 a2 a3 r k) := by
  unfold fX12_copies_J168
  refine G_iinc (x := a3) (g := fun x52 => [vR a0, vI a1, vI a2, vI x52, vU]) (pc := 168) dX12_copies_168 rfl (fun _ => rfl) (fun x52 => ?_)
  refine G_goto (tgt := 31) (pc := 171) dX12_copies_171 ?_
  exact hr s x52
def fX12_copies_L31 (fu : Nat) (a0 : Int) (a1 : Int) (a2 : Int) : Nat → z_M → Int → (z_M → z_O) → z_O
  | 0, _, _, _ => none
  | F + 1, s, a3, k => if (200 : Int) ≤ a3 then (k s) else (if z_ob a0 12 then z_let (z_gr a0 13) (fun x9 => if z_ix x9 103 a2 then z_let (z_gr x9 a2) (fun x10 => if z_ob a0 12 then z_let (z_gr a0 13) (fun x11 => if z_ix x11 103 a1 then z_let (z_gr x11 a1) (fun x12 => if z_ix x12 100 a3 then z_let (s x12 a3) (fun x13 => if z_ix x10 100 a3 then z_let (z_up s x10 a3 x13) (fun s14 => if z_ob a0 12 then z_let (z_gr a0 14) (fun x15 => if z_ix x15 103 a2 then z_let (z_gr x15 a2) (fun x16 => if z_ob a0 12 then z_let (z_gr a0 14) (fun x17 => if z_ix x17 103 a1 then z_let (z_gr x17 a1) (fun x18 => if z_ix x18 100 a3 then z_let (s14 x18 a3) (fun x19 => if z_ix x16 100 a3 then z_let (z_up s14 x16 a3 x19) (fun s20 => if z_ob a0 12 then z_let (z_gr a0 15) (fun x21 => if z_ix x21 103 a2 then z_let (z_gr x21 a2) (fun x22 => if z_ob a0 12 then z_let (z_gr a0 15) (fun x23 => if z_ix x23 103 a1 then z_let (z_gr x23 a1) (fun x24 => if z_ix x24 100 a3 then z_let (s20 x24 a3) (fun x25 => if z_ix x22 100 a3 then z_let (z_up s20 x22 a3 x25) (fun s26 => if z_ob a0 12 then z_let (z_gr a0 16) (fun x27 => if z_ix x27 103 a2 then z_let (z_gr x27 a2) (fun x28 => if z_ob a0 12 then z_let (z_gr a0 16) (fun x29 => if z_ix x29 103 a1 then z_let (z_gr x29 a1) (fun x30 => if z_ix x30 100 a3 then z_let (s26 x30 a3) (fun x31 => if z_ix x28 100 a3 then z_let (z_up s26 x28 a3 x31) (fun s32 => if z_ob a0 12 then z_let (z_gr a0 17) (fun x33 => if z_ix x33 103 a2 then z_let (z_gr x33 a2) (fun x34 => if z_ob a0 12 then z_let (z_gr a0 17) (fun x35 => if z_ix x35 103 a1 then z_let (z_gr x35 a1) (fun x36 => if z_ix x36 100 a3 then z_let (s32 x36 a3) (fun x37 => if z_ix x34 100 a3 then z_let (z_up s32 x34 a3 x37) (fun s38 => fX12_copies_L121 fu a0 a1 a2 a3 fu s38 0 (fun s51 => fX12_copies_J168 fu s51 a0 a1 a2 a3 (fun w v3 => fX12_copies_L31 fu a0 a1 a2 F w v3 k) k)) else none) else none) else none) else none) else none) else none) else none) else none) else none) else none) else none) else none) else none) else none) else none) else none) else none) else none) else none) else none) else none) else none) else none) else none) else none) else none) else none) else none) else none) else none)
theorem gX12_copies_L31 {l : Launch} {K : z_K} (hst : l.stackTraces = false) (fu : Nat) (a0 : Int) (a1 : Int) (a2 : Int) (k : z_M → z_O) (hk : ∀ (s : z_M), G l K mX12_copies 0 0 0 0 174 [vU, vU, vU, vU, vU] [] s (k s)) : ∀ (F : Nat) (s : z_M) (a3 : Int), G l K mX12_copies 0 0 0 0 31 [vR a0, vI a1, vI a2, vI a3, vU] [] s (fX12_copies_L31 fu a0 a1 a2 F s a3 k) := by
  intro F
  induction F with
  | zero => exact fun s a3 h => absurd rfl h
  | succ F ih =>
    intro s a3
    rw [fX12_copies_L31]
    refine G_iload_n (x := a3) (pc := 31) dX12_copies_31 rfl ?_
    refine G_sipush (pc := 32) dX12_copies_32 ?_
    refine G_icmp_ge (tgt := 174) (pc := 35) dX12_copies_35 ?_ ?_
    · refine G_fg (lv2 := [vU, vU, vU, vU, vU]) ⟨Or.inl rfl, Or.inl rfl, Or.inl rfl, Or.inl rfl, Or.inl rfl, trivial⟩ ?_
      exact hk s
    · refine G_aload_n (x := a0) (pc := 38) dX12_copies_38 rfl ?_
      refine G_getR (j := 13) (pc := 39) dX12_copies_39 rfl z_CLX12 (by decide) z_wX12_34 (by decide) (fun x9 => ?_)
      refine G_iload_n (x := a2) (pc := 42) dX12_copies_42 rfl ?_
      refine G_aald103 (pc := 43) dX12_copies_43 (fun x10 => ?_)
      refine G_iload_n (x := a3) (pc := 44) dX12_copies_44 rfl ?_
      refine G_aload_n (x := a0) (pc := 45) dX12_copies_45 rfl ?_
      refine G_getR (j := 13) (pc := 46) dX12_copies_46 rfl z_CLX12 (by decide) z_wX12_34 (by decide) (fun x11 => ?_)
      refine G_iload_n (x := a1) (pc := 49) dX12_copies_49 rfl ?_
      refine G_aald103 (pc := 50) dX12_copies_50 (fun x12 => ?_)
      refine G_iload_n (x := a3) (pc := 51) dX12_copies_51 rfl ?_
      refine G_iald (pc := 52) dX12_copies_52 (fun x13 => ?_)
      refine G_iast (pc := 53) dX12_copies_53 (fun s14 => ?_)
      refine G_aload_n (x := a0) (pc := 54) dX12_copies_54 rfl ?_
      refine G_getR (j := 14) (pc := 55) dX12_copies_55 rfl z_CLX12 (by decide) z_wX12_37 (by decide) (fun x15 => ?_)
      refine G_iload_n (x := a2) (pc := 58) dX12_copies_58 rfl ?_
      refine G_aald103 (pc := 59) dX12_copies_59 (fun x16 => ?_)
      refine G_iload_n (x := a3) (pc := 60) dX12_copies_60 rfl ?_
      refine G_aload_n (x := a0) (pc := 61) dX12_copies_61 rfl ?_
      refine G_getR (j := 14) (pc := 62) dX12_copies_62 rfl z_CLX12 (by decide) z_wX12_37 (by decide) (fun x17 => ?_)
      refine G_iload_n (x := a1) (pc := 65) dX12_copies_65 rfl ?_
      refine G_aald103 (pc := 66) dX12_copies_66 (fun x18 => ?_)
      refine G_iload_n (x := a3) (pc := 67) dX12_copies_67 rfl ?_
      refine G_iald (pc := 68) dX12_copies_68 (fun x19 => ?_)
      refine G_iast (pc := 69) dX12_copies_69 (fun s20 => ?_)
      refine G_aload_n (x := a0) (pc := 70) dX12_copies_70 rfl ?_
      refine G_getR (j := 15) (pc := 71) dX12_copies_71 rfl z_CLX12 (by decide) z_wX12_40 (by decide) (fun x21 => ?_)
      refine G_iload_n (x := a2) (pc := 74) dX12_copies_74 rfl ?_
      refine G_aald103 (pc := 75) dX12_copies_75 (fun x22 => ?_)
      refine G_iload_n (x := a3) (pc := 76) dX12_copies_76 rfl ?_
      refine G_aload_n (x := a0) (pc := 77) dX12_copies_77 rfl ?_
      refine G_getR (j := 15) (pc := 78) dX12_copies_78 rfl z_CLX12 (by decide) z_wX12_40 (by decide) (fun x23 => ?_)
      refine G_iload_n (x := a1) (pc := 81) dX12_copies_81 rfl ?_
      refine G_aald103 (pc := 82) dX12_copies_82 (fun x24 => ?_)
      refine G_iload_n (x := a3) (pc := 83) dX12_copies_83 rfl ?_
      refine G_iald (pc := 84) dX12_copies_84 (fun x25 => ?_)
      refine G_iast (pc := 85) dX12_copies_85 (fun s26 => ?_)
      refine G_aload_n (x := a0) (pc := 86) dX12_copies_86 rfl ?_
      refine G_getR (j := 16) (pc := 87) dX12_copies_87 rfl z_CLX12 (by decide) z_wX12_43 (by decide) (fun x27 => ?_)
      refine G_iload_n (x := a2) (pc := 90) dX12_copies_90 rfl ?_
      refine G_aald103 (pc := 91) dX12_copies_91 (fun x28 => ?_)
      refine G_iload_n (x := a3) (pc := 92) dX12_copies_92 rfl ?_
      refine G_aload_n (x := a0) (pc := 93) dX12_copies_93 rfl ?_
      refine G_getR (j := 16) (pc := 94) dX12_copies_94 rfl z_CLX12 (by decide) z_wX12_43 (by decide) (fun x29 => ?_)
      refine G_iload_n (x := a1) (pc := 97) dX12_copies_97 rfl ?_
      refine G_aald103 (pc := 98) dX12_copies_98 (fun x30 => ?_)
      refine G_iload_n (x := a3) (pc := 99) dX12_copies_99 rfl ?_
      refine G_iald (pc := 100) dX12_copies_100 (fun x31 => ?_)
      refine G_iast (pc := 101) dX12_copies_101 (fun s32 => ?_)
      refine G_aload_n (x := a0) (pc := 102) dX12_copies_102 rfl ?_
      refine G_getR (j := 17) (pc := 103) dX12_copies_103 rfl z_CLX12 (by decide) z_wX12_46 (by decide) (fun x33 => ?_)
      refine G_iload_n (x := a2) (pc := 106) dX12_copies_106 rfl ?_
      refine G_aald103 (pc := 107) dX12_copies_107 (fun x34 => ?_)
      refine G_iload_n (x := a3) (pc := 108) dX12_copies_108 rfl ?_
      refine G_aload_n (x := a0) (pc := 109) dX12_copies_109 rfl ?_
      refine G_getR (j := 17) (pc := 110) dX12_copies_110 rfl z_CLX12 (by decide) z_wX12_46 (by decide) (fun x35 => ?_)
      refine G_iload_n (x := a1) (pc := 113) dX12_copies_113 rfl ?_
      refine G_aald103 (pc := 114) dX12_copies_114 (fun x36 => ?_)
      refine G_iload_n (x := a3) (pc := 115) dX12_copies_115 rfl ?_
      refine G_iald (pc := 116) dX12_copies_116 (fun x37 => ?_)
      refine G_iast (pc := 117) dX12_copies_117 (fun s38 => ?_)
      refine G_iconst (pc := 118) dX12_copies_118 ?_
      refine G_istore (lv' := [vR a0, vI a1, vI a2, vI a3, vI 0]) (pc := 119) dX12_copies_119 rfl ?_
      refine gX12_copies_L121 hst fu a0 a1 a2 a3 _ (fun s51 => ?_) fu s38 0
      exact gX12_copies_J168 hst fu s51 a0 a1 a2 a3 _ _ (fun w v3 => ih w v3) hk
def fX12_copies (fu : Nat) (s : z_M) (a0 : Int) (a1 : Int) (a2 : Int) : z_O := fX12_copies_L2 fu a0 a1 a2 fu s 0 (fun s8 => fX12_copies_L31 fu a0 a1 a2 fu s8 0 (fun s53 => some (vN, s53)))
theorem gX12_copies {l : Launch} {K : z_K} (hst : l.stackTraces = false) (fu : Nat) (s : z_M) (a0 : Int) (a1 : Int) (a2 : Int) : z_D l K mX12_copies 0 0 0 0 [vR a0, vI a1, vI a2] s (fX12_copies fu s a0 a1 a2) := by
  refine z_D_of (lv := [vR a0, vI a1, vI a2, vU, vU]) hst z_mX12_copies rfl ?_ (Nat.le_of_ble_eq_true rfl) rfl
  unfold fX12_copies
  refine G_iconst (pc := 0) dX12_copies_0 ?_
  refine G_istore_n (lv' := [vR a0, vI a1, vI a2, vI 0, vU]) (pc := 1) dX12_copies_1 rfl ?_
  refine gX12_copies_L2 hst fu a0 a1 a2 _ (fun s8 => ?_) fu s 0
  refine G_iconst (pc := 29) dX12_copies_29 ?_
  refine G_istore_n (lv' := [vR a0, vI a1, vI a2, vI 0, vU]) (pc := 30) dX12_copies_30 rfl ?_
  refine gX12_copies_L31 hst fu a0 a1 a2 _ (fun s53 => ?_) fu s8 0
  exact G_vret (pc := 174) dX12_copies_174
def fX12_isOne_J50 (fu : Nat) (s : z_M) (t0 : Int) : z_O := if z_bl t0 then some (vI t0, s) else none
theorem gX12_isOne_J50 {l : Launch} {K : z_K} (hst : l.stackTraces = false) (fu : Nat) (s : z_M) (t0 : Int) : G l K mX12_isOne 0 0 0 0 50 [vU, vU] [vI t0] s (fX12_isOne_J50 fu s t0) := by
  unfold fX12_isOne_J50
  exact G_zret (pc := 50) dX12_isOne_50
def fX12_isOne_J24 (fu : Nat) (s : z_M) (a0 : Int) (a1 : Int) : z_O := if z_ob a0 12 then z_let (z_gr a0 14) (fun x4 => if z_ix x4 103 0 then z_let (z_gr x4 0) (fun x5 => if z_ix x5 100 a1 then z_let (s x5 a1) (fun x6 => if z_ob a0 12 then z_let (z_gr a0 14) (fun x7 => if z_ix x7 103 0 then z_let (z_gr x7 0) (fun x8 => z_let (z_w (a1 - 1)) (fun x9 => if z_ix x8 100 x9 then z_let (s x8 x9) (fun x10 => if (x6 : Int) ≠ x10 then (fX12_isOne_J50 fu s 0) else (fX12_isOne_J50 fu s 1)) else none)) else none) else none) else none) else none) else none
theorem gX12_isOne_J24 {l : Launch} {K : z_K} (hst : l.stackTraces = false) (fu : Nat) (s : z_M) (a0 : Int) (a1 : Int) : G l K mX12_isOne 0 0 0 0 24 [vR a0, vI a1] [] s (fX12_isOne_J24 fu s a0 a1) := by
  unfold fX12_isOne_J24
  refine G_aload_n (x := a0) (pc := 24) dX12_isOne_24 rfl ?_
  refine G_getR (j := 14) (pc := 25) dX12_isOne_25 rfl z_CLX12 (by decide) z_wX12_37 (by decide) (fun x4 => ?_)
  refine G_iconst (pc := 28) dX12_isOne_28 ?_
  refine G_aald103 (pc := 29) dX12_isOne_29 (fun x5 => ?_)
  refine G_iload_n (x := a1) (pc := 30) dX12_isOne_30 rfl ?_
  refine G_iald (pc := 31) dX12_isOne_31 (fun x6 => ?_)
  refine G_aload_n (x := a0) (pc := 32) dX12_isOne_32 rfl ?_
  refine G_getR (j := 14) (pc := 33) dX12_isOne_33 rfl z_CLX12 (by decide) z_wX12_37 (by decide) (fun x7 => ?_)
  refine G_iconst (pc := 36) dX12_isOne_36 ?_
  refine G_aald103 (pc := 37) dX12_isOne_37 (fun x8 => ?_)
  refine G_iload_n (x := a1) (pc := 38) dX12_isOne_38 rfl ?_
  refine G_iconst (pc := 39) dX12_isOne_39 ?_
  refine G_isub (pc := 40) dX12_isOne_40 (fun x9 => ?_)
  refine G_iald (pc := 41) dX12_isOne_41 (fun x10 => ?_)
  refine G_icmp_ne (tgt := 49) (pc := 42) dX12_isOne_42 ?_ ?_
  · refine G_iconst (pc := 49) dX12_isOne_49 ?_
    refine G_fg (lv2 := [vU, vU]) ⟨Or.inl rfl, Or.inl rfl, trivial⟩ ?_
    exact gX12_isOne_J50 hst fu s 0
  · refine G_iconst (pc := 45) dX12_isOne_45 ?_
    refine G_goto (tgt := 50) (pc := 46) dX12_isOne_46 ?_
    refine G_fg (lv2 := [vU, vU]) ⟨Or.inl rfl, Or.inl rfl, trivial⟩ ?_
    exact gX12_isOne_J50 hst fu s 1
def fX12_isOne_J90 (fu : Nat) (s : z_M) (t0 : Int) : z_O := if z_bl t0 then some (vI t0, s) else none
theorem gX12_isOne_J90 {l : Launch} {K : z_K} (hst : l.stackTraces = false) (fu : Nat) (s : z_M) (t0 : Int) : G l K mX12_isOne 0 0 0 0 90 [vU, vU] [vI t0] s (fX12_isOne_J90 fu s t0) := by
  unfold fX12_isOne_J90
  exact G_zret (pc := 90) dX12_isOne_90
def fX12_isOne_J89 (fu : Nat) (s : z_M) : z_O := fX12_isOne_J90 fu s 0
theorem gX12_isOne_J89 {l : Launch} {K : z_K} (hst : l.stackTraces = false) (fu : Nat) (s : z_M) : G l K mX12_isOne 0 0 0 0 89 [vU, vU] [] s (fX12_isOne_J89 fu s) := by
  unfold fX12_isOne_J89
  refine G_iconst (pc := 89) dX12_isOne_89 ?_
  exact gX12_isOne_J90 hst fu s 0
def fX12_isOne (fu : Nat) (s : z_M) (a0 : Int) (a1 : Int) : z_O := if z_ob a0 12 then z_let (z_gr a0 14) (fun x1 => if z_ix x1 103 0 then z_let (z_gr x1 0) (fun x2 => if z_ix x2 100 a1 then z_let (s x2 a1) (fun x3 => if (x3 : Int) = 1 then (fX12_isOne_J24 fu s a0 a1) else (if z_ob a0 12 then z_let (z_gr a0 14) (fun x11 => if z_ix x11 103 0 then z_let (z_gr x11 0) (fun x12 => if z_ix x12 100 a1 then z_let (s x12 a1) (fun x13 => if (x13 : Int) ≠ 2 then (if z_ob a0 12 then z_let (z_gr a0 14) (fun x14 => if z_ix x14 103 0 then z_let (z_gr x14 0) (fun x15 => if z_ix x15 100 a1 then z_let (s x15 a1) (fun x16 => if (x16 : Int) ≠ 7 then (fX12_isOne_J89 fu s) else (if z_ob a0 12 then z_let (z_gr a0 15) (fun x17 => if z_ix x17 103 0 then z_let (z_gr x17 0) (fun x18 => if z_ix x18 100 a1 then z_let (s x18 a1) (fun x19 => if z_ob a0 12 then z_let (z_gr a0 15) (fun x20 => if z_ix x20 103 0 then z_let (z_gr x20 0) (fun x21 => z_let (z_w (a1 - 1)) (fun x22 => if z_ix x21 100 x22 then z_let (s x21 x22) (fun x23 => if (x19 : Int) ≠ x23 then (fX12_isOne_J89 fu s) else (fX12_isOne_J90 fu s 1)) else none)) else none) else none) else none) else none) else none)) else none) else none) else none) else (fX12_isOne_J24 fu s a0 a1)) else none) else none) else none)) else none) else none) else none
theorem gX12_isOne {l : Launch} {K : z_K} (hst : l.stackTraces = false) (fu : Nat) (s : z_M) (a0 : Int) (a1 : Int) : z_D l K mX12_isOne 0 0 0 0 [vR a0, vI a1] s (fX12_isOne fu s a0 a1) := by
  refine z_D_of (lv := [vR a0, vI a1]) hst z_mX12_isOne rfl ?_ (Nat.le_of_ble_eq_true rfl) rfl
  unfold fX12_isOne
  refine G_aload_n (x := a0) (pc := 0) dX12_isOne_0 rfl ?_
  refine G_getR (j := 14) (pc := 1) dX12_isOne_1 rfl z_CLX12 (by decide) z_wX12_37 (by decide) (fun x1 => ?_)
  refine G_iconst (pc := 4) dX12_isOne_4 ?_
  refine G_aald103 (pc := 5) dX12_isOne_5 (fun x2 => ?_)
  refine G_iload_n (x := a1) (pc := 6) dX12_isOne_6 rfl ?_
  refine G_iald (pc := 7) dX12_isOne_7 (fun x3 => ?_)
  refine G_iconst (pc := 8) dX12_isOne_8 ?_
  refine G_icmp_eq (tgt := 24) (pc := 9) dX12_isOne_9 ?_ ?_
  · exact gX12_isOne_J24 hst fu s a0 a1
  · refine G_aload_n (x := a0) (pc := 12) dX12_isOne_12 rfl ?_
    refine G_getR (j := 14) (pc := 13) dX12_isOne_13 rfl z_CLX12 (by decide) z_wX12_37 (by decide) (fun x11 => ?_)
    refine G_iconst (pc := 16) dX12_isOne_16 ?_
    refine G_aald103 (pc := 17) dX12_isOne_17 (fun x12 => ?_)
    refine G_iload_n (x := a1) (pc := 18) dX12_isOne_18 rfl ?_
    refine G_iald (pc := 19) dX12_isOne_19 (fun x13 => ?_)
    refine G_iconst (pc := 20) dX12_isOne_20 ?_
    refine G_icmp_ne (tgt := 51) (pc := 21) dX12_isOne_21 ?_ ?_
    · refine G_aload_n (x := a0) (pc := 51) dX12_isOne_51 rfl ?_
      refine G_getR (j := 14) (pc := 52) dX12_isOne_52 rfl z_CLX12 (by decide) z_wX12_37 (by decide) (fun x14 => ?_)
      refine G_iconst (pc := 55) dX12_isOne_55 ?_
      refine G_aald103 (pc := 56) dX12_isOne_56 (fun x15 => ?_)
      refine G_iload_n (x := a1) (pc := 57) dX12_isOne_57 rfl ?_
      refine G_iald (pc := 58) dX12_isOne_58 (fun x16 => ?_)
      refine G_bipush (pc := 59) dX12_isOne_59 ?_
      refine G_icmp_ne (tgt := 89) (pc := 61) dX12_isOne_61 ?_ ?_
      · refine G_fg (lv2 := [vU, vU]) ⟨Or.inl rfl, Or.inl rfl, trivial⟩ ?_
        exact gX12_isOne_J89 hst fu s
      · refine G_aload_n (x := a0) (pc := 64) dX12_isOne_64 rfl ?_
        refine G_getR (j := 15) (pc := 65) dX12_isOne_65 rfl z_CLX12 (by decide) z_wX12_40 (by decide) (fun x17 => ?_)
        refine G_iconst (pc := 68) dX12_isOne_68 ?_
        refine G_aald103 (pc := 69) dX12_isOne_69 (fun x18 => ?_)
        refine G_iload_n (x := a1) (pc := 70) dX12_isOne_70 rfl ?_
        refine G_iald (pc := 71) dX12_isOne_71 (fun x19 => ?_)
        refine G_aload_n (x := a0) (pc := 72) dX12_isOne_72 rfl ?_
        refine G_getR (j := 15) (pc := 73) dX12_isOne_73 rfl z_CLX12 (by decide) z_wX12_40 (by decide) (fun x20 => ?_)
        refine G_iconst (pc := 76) dX12_isOne_76 ?_
        refine G_aald103 (pc := 77) dX12_isOne_77 (fun x21 => ?_)
        refine G_iload_n (x := a1) (pc := 78) dX12_isOne_78 rfl ?_
        refine G_iconst (pc := 79) dX12_isOne_79 ?_
        refine G_isub (pc := 80) dX12_isOne_80 (fun x22 => ?_)
        refine G_iald (pc := 81) dX12_isOne_81 (fun x23 => ?_)
        refine G_icmp_ne (tgt := 89) (pc := 82) dX12_isOne_82 ?_ ?_
        · refine G_fg (lv2 := [vU, vU]) ⟨Or.inl rfl, Or.inl rfl, trivial⟩ ?_
          exact gX12_isOne_J89 hst fu s
        · refine G_iconst (pc := 85) dX12_isOne_85 ?_
          refine G_goto (tgt := 90) (pc := 86) dX12_isOne_86 ?_
          refine G_fg (lv2 := [vU, vU]) ⟨Or.inl rfl, Or.inl rfl, trivial⟩ ?_
          exact gX12_isOne_J90 hst fu s 1
    · exact gX12_isOne_J24 hst fu s a0 a1
def fX12_laysUnits_J78 (fu : Nat) (s : z_M) (a0 : Int) (a1 : Int) (r : z_M → Int → z_O) (k : z_M → z_O) : z_O := if z_ob a0 12 then z_let (z_gr a0 23) (fun x20 => if z_ob a0 12 then z_let (s a0 20) (fun x21 => z_let (z_w (x21 - 1)) (fun x22 => if z_ix x20 100 x22 then z_let (s x20 x22) (fun x23 => z_let (z_w (x23 + 1)) (fun x24 => if z_ix x20 100 x22 then z_let (z_up s x20 x22 x24) (fun s25 => if z_ob a0 12 then z_let (z_gr a0 24) (fun x26 => if z_ob a0 12 then z_let (s25 a0 20) (fun x27 => z_let (z_w (x27 - 1)) (fun x28 => if z_ix x26 100 a1 then z_let (z_up s25 x26 a1 x28) (fun s29 => z_let (z_w (a1 + 1)) (fun x30 => r s29 x30)) else none)) else none) else none) else none)) else none)) else none) else none
theorem gX12_laysUnits_J78 {l : Launch} {K : z_K} (hst : l.stackTraces = false) (fu : Nat) (s : z_M) (a0 : Int) (a1 : Int) (r : z_M → Int → z_O) (k : z_M → z_O) (hr : ∀ (s : z_M) (a1 : Int), G l K mX12_laysUnits 1 21 0 0 7 [vR a0, vI a1] [] s (r s a1)) (hk : ∀ (s : z_M), G l K mX12_laysUnits 1 21 0 0 111 [vR a0, vU] [] s (k s)) : G l K mX12_laysUnits 1 21 0 0 78 [vR a0, vI a1] [] s (fX12_laysUnits_J78 fu s a0 a1 r k) := by
  unfold fX12_laysUnits_J78
  refine G_aload_n (x := a0) (pc := 78) dX12_laysUnits_78 rfl ?_
  refine G_getR (j := 23) (pc := 79) dX12_laysUnits_79 rfl z_CLX12 (by decide) z_wX12_60 (by decide) (fun x20 => ?_)
  refine G_aload_n (x := a0) (pc := 82) dX12_laysUnits_82 rfl ?_
  refine G_getI (j := 20) (pc := 83) dX12_laysUnits_83 rfl z_CLX12 (by decide) z_wX12_242 (by decide) (fun x21 => ?_)
  refine G_iconst (pc := 86) dX12_laysUnits_86 ?_
  refine G_isub (pc := 87) dX12_laysUnits_87 (fun x22 => ?_)
  refine G_dup2 (pc := 88) dX12_laysUnits_88 ?_
  refine G_iald (pc := 89) dX12_laysUnits_89 (fun x23 => ?_)
  refine G_iconst (pc := 90) dX12_laysUnits_90 ?_
  refine G_iadd (pc := 91) dX12_laysUnits_91 (fun x24 => ?_)
  refine G_iast (pc := 92) dX12_laysUnits_92 (fun s25 => ?_)
  refine G_aload_n (x := a0) (pc := 93) dX12_laysUnits_93 rfl ?_
  refine G_getR (j := 24) (pc := 94) dX12_laysUnits_94 rfl z_CLX12 (by decide) z_wX12_63 (by decide) (fun x26 => ?_)
  refine G_iload_n (x := a1) (pc := 97) dX12_laysUnits_97 rfl ?_
  refine G_aload_n (x := a0) (pc := 98) dX12_laysUnits_98 rfl ?_
  refine G_getI (j := 20) (pc := 99) dX12_laysUnits_99 rfl z_CLX12 (by decide) z_wX12_242 (by decide) (fun x27 => ?_)
  refine G_iconst (pc := 102) dX12_laysUnits_102 ?_
  refine G_isub (pc := 103) dX12_laysUnits_103 (fun x28 => ?_)
  refine G_iast (pc := 104) dX12_laysUnits_104 (fun s29 => ?_)
  refine G_iinc (x := a1) (g := fun x30 => [vR a0, vI x30]) (pc := 105) dX12_laysUnits_105 rfl (fun _ => rfl) (fun x30 => ?_)
  refine G_goto (tgt := 7) (pc := 108) dX12_laysUnits_108 ?_
  exact hr s29 x30
def fX12_laysUnits_J31 (fu : Nat) (s : z_M) (a0 : Int) (a1 : Int) (r : z_M → Int → z_O) (k : z_M → z_O) : z_O := if z_ob a0 12 then z_let (z_gr a0 21) (fun x5 => if z_ob a0 12 then z_let (s a0 20) (fun x6 => if z_ob a0 12 then z_let (z_gr a0 14) (fun x7 => if z_ix x7 103 0 then z_let (z_gr x7 0) (fun x8 => if z_ix x8 100 a1 then z_let (s x8 a1) (fun x9 => if z_ix x5 100 x6 then z_let (z_up s x5 x6 x9) (fun s10 => if z_ob a0 12 then z_let (z_gr a0 22) (fun x11 => if z_ob a0 12 then z_let (s10 a0 20) (fun x12 => if z_ix x11 100 x12 then z_let (z_up s10 x11 x12 a1) (fun s13 => if z_ob a0 12 then z_let (z_gr a0 23) (fun x14 => if z_ob a0 12 then z_let (s13 a0 20) (fun x15 => if z_ix x14 100 x15 then z_let (z_up s13 x14 x15 0) (fun s16 => if z_ob a0 12 then z_let (s16 a0 20) (fun x17 => z_let (z_w (x17 + 1)) (fun x18 => if z_ob a0 12 then z_let (z_up s16 a0 20 x18) (fun s19 => fX12_laysUnits_J78 fu s19 a0 a1 (fun w v1 => r w v1) k) else none)) else none) else none) else none) else none) else none) else none) else none) else none) else none) else none) else none) else none) else none
theorem gX12_laysUnits_J31 {l : Launch} {K : z_K} (hst : l.stackTraces = false) (fu : Nat) (s : z_M) (a0 : Int) (a1 : Int) (r : z_M → Int → z_O) (k : z_M → z_O) (hr : ∀ (s : z_M) (a1 : Int), G l K mX12_laysUnits 1 21 0 0 7 [vR a0, vI a1] [] s (r s a1)) (hk : ∀ (s : z_M), G l K mX12_laysUnits 1 21 0 0 111 [vR a0, vU] [] s (k s)) : G l K mX12_laysUnits 1 21 0 0 31 [vR a0, vI a1] [] s (fX12_laysUnits_J31 fu s a0 a1 r k) := by
  unfold fX12_laysUnits_J31
  refine G_aload_n (x := a0) (pc := 31) dX12_laysUnits_31 rfl ?_
  refine G_getR (j := 21) (pc := 32) dX12_laysUnits_32 rfl z_CLX12 (by decide) z_wX12_54 (by decide) (fun x5 => ?_)
  refine G_aload_n (x := a0) (pc := 35) dX12_laysUnits_35 rfl ?_
  refine G_getI (j := 20) (pc := 36) dX12_laysUnits_36 rfl z_CLX12 (by decide) z_wX12_242 (by decide) (fun x6 => ?_)
  refine G_aload_n (x := a0) (pc := 39) dX12_laysUnits_39 rfl ?_
  refine G_getR (j := 14) (pc := 40) dX12_laysUnits_40 rfl z_CLX12 (by decide) z_wX12_37 (by decide) (fun x7 => ?_)
  refine G_iconst (pc := 43) dX12_laysUnits_43 ?_
  refine G_aald103 (pc := 44) dX12_laysUnits_44 (fun x8 => ?_)
  refine G_iload_n (x := a1) (pc := 45) dX12_laysUnits_45 rfl ?_
  refine G_iald (pc := 46) dX12_laysUnits_46 (fun x9 => ?_)
  refine G_iast (pc := 47) dX12_laysUnits_47 (fun s10 => ?_)
  refine G_aload_n (x := a0) (pc := 48) dX12_laysUnits_48 rfl ?_
  refine G_getR (j := 22) (pc := 49) dX12_laysUnits_49 rfl z_CLX12 (by decide) z_wX12_57 (by decide) (fun x11 => ?_)
  refine G_aload_n (x := a0) (pc := 52) dX12_laysUnits_52 rfl ?_
  refine G_getI (j := 20) (pc := 53) dX12_laysUnits_53 rfl z_CLX12 (by decide) z_wX12_242 (by decide) (fun x12 => ?_)
  refine G_iload_n (x := a1) (pc := 56) dX12_laysUnits_56 rfl ?_
  refine G_iast (pc := 57) dX12_laysUnits_57 (fun s13 => ?_)
  refine G_aload_n (x := a0) (pc := 58) dX12_laysUnits_58 rfl ?_
  refine G_getR (j := 23) (pc := 59) dX12_laysUnits_59 rfl z_CLX12 (by decide) z_wX12_60 (by decide) (fun x14 => ?_)
  refine G_aload_n (x := a0) (pc := 62) dX12_laysUnits_62 rfl ?_
  refine G_getI (j := 20) (pc := 63) dX12_laysUnits_63 rfl z_CLX12 (by decide) z_wX12_242 (by decide) (fun x15 => ?_)
  refine G_iconst (pc := 66) dX12_laysUnits_66 ?_
  refine G_iast (pc := 67) dX12_laysUnits_67 (fun s16 => ?_)
  refine G_aload_n (x := a0) (pc := 68) dX12_laysUnits_68 rfl ?_
  refine G_dupR (pc := 69) dX12_laysUnits_69 ?_
  refine G_getI (j := 20) (pc := 70) dX12_laysUnits_70 rfl z_CLX12 (by decide) z_wX12_242 (by decide) (fun x17 => ?_)
  refine G_iconst (pc := 73) dX12_laysUnits_73 ?_
  refine G_iadd (pc := 74) dX12_laysUnits_74 (fun x18 => ?_)
  refine G_putI (j := 20) (pc := 75) dX12_laysUnits_75 rfl z_CLX12 (by decide) z_wX12_242 rfl (by decide) (by decide) (fun s19 => ?_)
  exact gX12_laysUnits_J78 hst fu s19 a0 a1 _ _ (fun w v1 => hr w v1) hk
def fX12_laysUnits_L7 (fu : Nat) (a0 : Int) : Nat → z_M → Int → (z_M → z_O) → z_O
  | 0, _, _, _ => none
  | F + 1, s, a1, k => if z_ob a0 12 then z_let (z_gr a0 12) (fun x2 => if z_ix x2 103 0 then z_let (z_gr x2 0) (fun x3 => if z_ix x3 100 0 then z_let (s x3 0) (fun x4 => if (x4 : Int) ≤ a1 then (k s) else (if (a1 : Int) = 0 then (fX12_laysUnits_J31 fu s a0 a1 (fun w v1 => fX12_laysUnits_L7 fu a0 F w v1 k) k) else (if z_ob a0 12 then z_bI (fX12_isOne fu s a0 a1) (fun x32 s31 => if (x32 : Int) ≠ 0 then (fX12_laysUnits_J78 fu s31 a0 a1 (fun w v1 => fX12_laysUnits_L7 fu a0 F w v1 k) k) else (fX12_laysUnits_J31 fu s31 a0 a1 (fun w v1 => fX12_laysUnits_L7 fu a0 F w v1 k) k)) else none))) else none) else none) else none
theorem gX12_laysUnits_L7 {l : Launch} {K : z_K} (hst : l.stackTraces = false) (fu : Nat) (a0 : Int) (k : z_M → z_O) (hk : ∀ (s : z_M), G l K mX12_laysUnits 1 21 0 0 111 [vR a0, vU] [] s (k s)) : ∀ (F : Nat) (s : z_M) (a1 : Int), G l K mX12_laysUnits 1 21 0 0 7 [vR a0, vI a1] [] s (fX12_laysUnits_L7 fu a0 F s a1 k) := by
  intro F
  induction F with
  | zero => exact fun s a1 h => absurd rfl h
  | succ F ih =>
    intro s a1
    rw [fX12_laysUnits_L7]
    refine G_iload_n (x := a1) (pc := 7) dX12_laysUnits_7 rfl ?_
    refine G_aload_n (x := a0) (pc := 8) dX12_laysUnits_8 rfl ?_
    refine G_getR (j := 12) (pc := 9) dX12_laysUnits_9 rfl z_CLX12 (by decide) z_wX12_31 (by decide) (fun x2 => ?_)
    refine G_iconst (pc := 12) dX12_laysUnits_12 ?_
    refine G_aald103 (pc := 13) dX12_laysUnits_13 (fun x3 => ?_)
    refine G_iconst (pc := 14) dX12_laysUnits_14 ?_
    refine G_iald (pc := 15) dX12_laysUnits_15 (fun x4 => ?_)
    refine G_icmp_ge (tgt := 111) (pc := 16) dX12_laysUnits_16 ?_ ?_
    · refine G_fg (lv2 := [vR a0, vU]) ⟨Or.inr rfl, Or.inl rfl, trivial⟩ ?_
      exact hk s
    · refine G_iload_n (x := a1) (pc := 19) dX12_laysUnits_19 rfl ?_
      refine G_if_eq (tgt := 31) (pc := 20) dX12_laysUnits_20 ?_ ?_
      · exact gX12_laysUnits_J31 hst fu s a0 a1 _ _ (fun w v1 => ih w v1) hk
      · refine G_aload_n (x := a0) (pc := 23) dX12_laysUnits_23 rfl ?_
        refine G_iload_n (x := a1) (pc := 24) dX12_laysUnits_24 rfl ?_
        refine G_callVI (as := [vI a1]) (st := []) (c := 12) (bc2 := 0) (bs2 := 0) (pc := 25) dX12_laysUnits_25 z_mX12_isOne z_vX12_isOne z_wX12_267 (gX12_isOne hst fu s a0 a1) rfl rfl (by decide) rfl rfl ⟨by decide, by decide, by decide, by decide, Nat.le_of_ble_eq_true rfl⟩ rfl (fun x32 s31 => ?_)
        refine G_if_ne (tgt := 78) (pc := 28) dX12_laysUnits_28 ?_ ?_
        · exact gX12_laysUnits_J78 hst fu s31 a0 a1 _ _ (fun w v1 => ih w v1) hk
        · exact gX12_laysUnits_J31 hst fu s31 a0 a1 _ _ (fun w v1 => ih w v1) hk
def fX12_laysUnits (fu : Nat) (s : z_M) (a0 : Int) : z_O := if z_ob a0 12 then z_let (z_up s a0 20 0) (fun s1 => fX12_laysUnits_L7 fu a0 fu s1 0 (fun s33 => if z_ob a0 12 ∧ z_bl 0 then z_let (z_up s33 a0 36 0) (fun s34 => some (vN, s34)) else none)) else none
theorem gX12_laysUnits {l : Launch} {K : z_K} (hst : l.stackTraces = false) (fu : Nat) (s : z_M) (a0 : Int) : z_D l K mX12_laysUnits 1 21 0 0 [vR a0] s (fX12_laysUnits fu s a0) := by
  refine z_D_of (lv := [vR a0, vU]) hst z_mX12_laysUnits rfl ?_ (Nat.le_of_ble_eq_true rfl) rfl
  unfold fX12_laysUnits
  refine G_aload_n (x := a0) (pc := 0) dX12_laysUnits_0 rfl ?_
  refine G_iconst (pc := 1) dX12_laysUnits_1 ?_
  refine G_putI (j := 20) (pc := 2) dX12_laysUnits_2 rfl z_CLX12 (by decide) z_wX12_242 rfl (by decide) (by decide) (fun s1 => ?_)
  refine G_iconst (pc := 5) dX12_laysUnits_5 ?_
  refine G_istore_n (lv' := [vR a0, vI 0]) (pc := 6) dX12_laysUnits_6 rfl ?_
  refine gX12_laysUnits_L7 hst fu a0 _ (fun s33 => ?_) fu s1 0
  refine G_aload_n (x := a0) (pc := 111) dX12_laysUnits_111 rfl ?_
  refine G_iconst (pc := 112) dX12_laysUnits_112 ?_
  refine G_putZ (j := 36) (pc := 113) dX12_laysUnits_113 rfl z_CLX12 (by decide) z_wX12_263 rfl (by decide) (fun s34 => ?_)
  exact G_vret (pc := 116) dX12_laysUnits_116
def fX12_stands_J41 (fu : Nat) (s : z_M) (a0 : Int) : z_O := if z_ob a0 12 then z_let (s a0 19) (fun x2 => z_let (z_w (x2 + 1)) (fun x3 => if z_ob a0 12 then z_let (z_up s a0 19 x3) (fun s4 => if z_ob a0 12 then z_let (s4 a0 19) (fun x5 => if z_ob a0 12 then z_bN (fX12_copies fu s4 a0 0 x5) (fun s6 => if z_ob a0 12 then z_bN (fX12_copies fu s6 a0 13 0) (fun s7 => if z_ob a0 12 then z_bN (fX12_laysUnits fu s7 a0) (fun s8 => some (vN, s8)) else none) else none) else none) else none) else none)) else none
theorem gX12_stands_J41 {l : Launch} {K : z_K} (hst : l.stackTraces = false) (fu : Nat) (s : z_M) (a0 : Int) : G l K mX12_stands 2 42 0 0 41 [vR a0, vU] [] s (fX12_stands_J41 fu s a0) := by
  unfold fX12_stands_J41
  refine G_aload_n (x := a0) (pc := 41) dX12_stands_41 rfl ?_
  refine G_dupR (pc := 42) dX12_stands_42 ?_
  refine G_getI (j := 19) (pc := 43) dX12_stands_43 rfl z_CLX12 (by decide) z_wX12_227 (by decide) (fun x2 => ?_)
  refine G_iconst (pc := 46) dX12_stands_46 ?_
  refine G_iadd (pc := 47) dX12_stands_47 (fun x3 => ?_)
  refine G_putI (j := 19) (pc := 48) dX12_stands_48 rfl z_CLX12 (by decide) z_wX12_227 rfl (by decide) (by decide) (fun s4 => ?_)
  refine G_aload_n (x := a0) (pc := 51) dX12_stands_51 rfl ?_
  refine G_iconst (pc := 52) dX12_stands_52 ?_
  refine G_aload_n (x := a0) (pc := 53) dX12_stands_53 rfl ?_
  refine G_getI (j := 19) (pc := 54) dX12_stands_54 rfl z_CLX12 (by decide) z_wX12_227 (by decide) (fun x5 => ?_)
  refine G_callVN (as := [vI 0, vI x5]) (st := []) (c := 12) (bc2 := 0) (bs2 := 0) (pc := 57) dX12_stands_57 z_mX12_copies z_vX12_copies z_wX12_230 (gX12_copies hst fu s4 a0 0 x5) rfl rfl (by decide) rfl rfl ⟨by decide, by decide, by decide, by decide, Nat.le_of_ble_eq_true rfl⟩ rfl (fun s6 => ?_)
  refine G_aload_n (x := a0) (pc := 60) dX12_stands_60 rfl ?_
  refine G_bipush (pc := 61) dX12_stands_61 ?_
  refine G_iconst (pc := 63) dX12_stands_63 ?_
  refine G_callVN (as := [vI 13, vI 0]) (st := []) (c := 12) (bc2 := 0) (bs2 := 0) (pc := 64) dX12_stands_64 z_mX12_copies z_vX12_copies z_wX12_230 (gX12_copies hst fu s6 a0 13 0) rfl rfl (by decide) rfl rfl ⟨by decide, by decide, by decide, by decide, Nat.le_of_ble_eq_true rfl⟩ rfl (fun s7 => ?_)
  refine G_aload_n (x := a0) (pc := 67) dX12_stands_67 rfl ?_
  refine G_callVN (as := []) (st := []) (c := 12) (bc2 := 0) (bs2 := 0) (pc := 68) dX12_stands_68 z_mX12_laysUnits z_vX12_laysUnits z_wX12_233 (gX12_laysUnits hst fu s7 a0) rfl rfl (by decide) rfl rfl ⟨by decide, by decide, by decide, by decide, Nat.le_of_ble_eq_true rfl⟩ rfl (fun s8 => ?_)
  exact G_vret (pc := 71) dX12_stands_71
def fX12_stands_L11 (fu : Nat) (a0 : Int) : Nat → z_M → Int → (z_M → z_O) → z_O
  | 0, _, _, _ => none
  | F + 1, s, a1, k => if (12 : Int) < a1 then (k s) else (z_let (z_w (a1 - 1)) (fun x9 => if z_ob a0 12 then z_bN (fX12_copies fu s a0 a1 x9) (fun s10 => z_let (z_w (a1 + 1)) (fun x11 => fX12_stands_L11 fu a0 F s10 x11 k)) else none))
theorem gX12_stands_L11 {l : Launch} {K : z_K} (hst : l.stackTraces = false) (fu : Nat) (a0 : Int) (k : z_M → z_O) (hk : ∀ (s : z_M), G l K mX12_stands 2 42 0 0 31 [vR a0, vU] [] s (k s)) : ∀ (F : Nat) (s : z_M) (a1 : Int), G l K mX12_stands 2 42 0 0 11 [vR a0, vI a1] [] s (fX12_stands_L11 fu a0 F s a1 k) := by
  intro F
  induction F with
  | zero => exact fun s a1 h => absurd rfl h
  | succ F ih =>
    intro s a1
    rw [fX12_stands_L11]
    refine G_iload_n (x := a1) (pc := 11) dX12_stands_11 rfl ?_
    refine G_bipush (pc := 12) dX12_stands_12 ?_
    refine G_icmp_gt (tgt := 31) (pc := 14) dX12_stands_14 ?_ ?_
    · refine G_fg (lv2 := [vR a0, vU]) ⟨Or.inr rfl, Or.inl rfl, trivial⟩ ?_
      exact hk s
    · refine G_aload_n (x := a0) (pc := 17) dX12_stands_17 rfl ?_
      refine G_iload_n (x := a1) (pc := 18) dX12_stands_18 rfl ?_
      refine G_iload_n (x := a1) (pc := 19) dX12_stands_19 rfl ?_
      refine G_iconst (pc := 20) dX12_stands_20 ?_
      refine G_isub (pc := 21) dX12_stands_21 (fun x9 => ?_)
      refine G_callVN (as := [vI a1, vI x9]) (st := []) (c := 12) (bc2 := 0) (bs2 := 0) (pc := 22) dX12_stands_22 z_mX12_copies z_vX12_copies z_wX12_230 (gX12_copies hst fu s a0 a1 x9) rfl rfl (by decide) rfl rfl ⟨by decide, by decide, by decide, by decide, Nat.le_of_ble_eq_true rfl⟩ rfl (fun s10 => ?_)
      refine G_iinc (x := a1) (g := fun x11 => [vR a0, vI x11]) (pc := 25) dX12_stands_25 rfl (fun _ => rfl) (fun x11 => ?_)
      refine G_goto (tgt := 11) (pc := 28) dX12_stands_28 ?_
      exact ih s10 x11
def fX12_stands (fu : Nat) (s : z_M) (a0 : Int) : z_O := if z_ob a0 12 then z_let (s a0 19) (fun x1 => if (x1 : Int) ≠ 12 then (fX12_stands_J41 fu s a0) else (fX12_stands_L11 fu a0 fu s 2 (fun s12 => if z_ob a0 12 then z_let (s12 a0 19) (fun x13 => z_let (z_w (x13 - 1)) (fun x14 => if z_ob a0 12 then z_let (z_up s12 a0 19 x14) (fun s15 => fX12_stands_J41 fu s15 a0) else none)) else none))) else none
theorem gX12_stands {l : Launch} {K : z_K} (hst : l.stackTraces = false) (fu : Nat) (s : z_M) (a0 : Int) : z_D l K mX12_stands 2 42 0 0 [vR a0] s (fX12_stands fu s a0) := by
  refine z_D_of (lv := [vR a0, vU]) hst z_mX12_stands rfl ?_ (Nat.le_of_ble_eq_true rfl) rfl
  unfold fX12_stands
  refine G_aload_n (x := a0) (pc := 0) dX12_stands_0 rfl ?_
  refine G_getI (j := 19) (pc := 1) dX12_stands_1 rfl z_CLX12 (by decide) z_wX12_227 (by decide) (fun x1 => ?_)
  refine G_bipush (pc := 4) dX12_stands_4 ?_
  refine G_icmp_ne (tgt := 41) (pc := 6) dX12_stands_6 ?_ ?_
  · exact gX12_stands_J41 hst fu s a0
  · refine G_iconst (pc := 9) dX12_stands_9 ?_
    refine G_istore_n (lv' := [vR a0, vI 2]) (pc := 10) dX12_stands_10 rfl ?_
    refine gX12_stands_L11 hst fu a0 _ (fun s12 => ?_) fu s 2
    refine G_aload_n (x := a0) (pc := 31) dX12_stands_31 rfl ?_
    refine G_dupR (pc := 32) dX12_stands_32 ?_
    refine G_getI (j := 19) (pc := 33) dX12_stands_33 rfl z_CLX12 (by decide) z_wX12_227 (by decide) (fun x13 => ?_)
    refine G_iconst (pc := 36) dX12_stands_36 ?_
    refine G_isub (pc := 37) dX12_stands_37 (fun x14 => ?_)
    refine G_putI (j := 19) (pc := 38) dX12_stands_38 rfl z_CLX12 (by decide) z_wX12_227 rfl (by decide) (by decide) (fun s15 => ?_)
    exact gX12_stands_J41 hst fu s15 a0
def fX12_reads_L25 (fu : Nat) (a0 : Int) : Nat → z_M → (z_M → z_O) → z_O
  | 0, _, _ => none
  | F + 1, s, k => if z_ob a0 12 then z_bI (fX12_fine fu s a0) (fun x7 s6 => if (x7 : Int) = 0 then (k s6) else (if z_ob a0 12 then z_let (s6 a0 4) (fun x8 => if z_ob a0 12 then z_let (s6 a0 3) (fun x9 => if (x9 : Int) ≤ x8 then (k s6) else (if z_ob a0 12 then z_bN (fX12_readsPart fu s6 a0) (fun s10 => fX12_reads_L25 fu a0 F s10 k) else none)) else none) else none)) else none
theorem gX12_reads_L25 {l : Launch} {K : z_K} (hst : l.stackTraces = false) (fu : Nat) (a0 : Int) (k : z_M → z_O) (hk : ∀ (s : z_M), G l K mX12_reads 5 112 0 0 50 [vR a0, vU] [] s (k s)) : ∀ (F : Nat) (s : z_M), G l K mX12_reads 5 112 0 0 25 [vR a0, vU] [] s (fX12_reads_L25 fu a0 F s k) := by
  intro F
  induction F with
  | zero => exact fun s h => absurd rfl h
  | succ F ih =>
    intro s
    rw [fX12_reads_L25]
    refine G_aload_n (x := a0) (pc := 25) dX12_reads_25 rfl ?_
    refine G_callVI (as := []) (st := []) (c := 12) (bc2 := 0) (bs2 := 0) (pc := 26) dX12_reads_26 z_mX12_fine z_vX12_fine z_wX12_199 (gX12_fine hst fu s a0) rfl rfl (by decide) rfl rfl ⟨by decide, by decide, by decide, by decide, Nat.le_of_ble_eq_true rfl⟩ rfl (fun x7 s6 => ?_)
    refine G_if_eq (tgt := 50) (pc := 29) dX12_reads_29 ?_ ?_
    · exact hk s6
    · refine G_aload_n (x := a0) (pc := 32) dX12_reads_32 rfl ?_
      refine G_getI (j := 4) (pc := 33) dX12_reads_33 rfl z_CLX12 (by decide) z_wX12_176 (by decide) (fun x8 => ?_)
      refine G_aload_n (x := a0) (pc := 36) dX12_reads_36 rfl ?_
      refine G_getI (j := 3) (pc := 37) dX12_reads_37 rfl z_CLX12 (by decide) z_wX12_179 (by decide) (fun x9 => ?_)
      refine G_icmp_ge (tgt := 50) (pc := 40) dX12_reads_40 ?_ ?_
      · exact hk s6
      · refine G_aload_n (x := a0) (pc := 43) dX12_reads_43 rfl ?_
        refine G_callVN (as := []) (st := []) (c := 12) (bc2 := 0) (bs2 := 0) (pc := 44) dX12_reads_44 z_mX12_readsPart z_vX12_readsPart z_wX12_236 (gX12_readsPart hst fu s6 a0) rfl rfl (by decide) rfl rfl ⟨by decide, by decide, by decide, by decide, Nat.le_of_ble_eq_true rfl⟩ rfl (fun s10 => ?_)
        refine G_goto (tgt := 25) (pc := 47) dX12_reads_47 ?_
        exact ih s10
def fX12_reads_J50 (fu : Nat) (s : z_M) (a0 : Int) : z_O := if z_ob a0 12 then z_let (s a0 7) (fun x12 => if z_ob a0 12 then z_let (z_up s a0 5 x12) (fun s13 => if z_ob a0 12 then z_bI (fX12_fine fu s13 a0) (fun x15 s14 => if (x15 : Int) ≠ 0 then (if z_ob a0 12 then z_bN (fX12_stands fu s14 a0) (fun s16 => if z_ob a0 12 then z_let (s16 a0 20) (fun x17 => some (vI x17, s16)) else none) else none) else (if z_ob a0 12 then z_let (s14 a0 6) (fun x18 => z_let (z_w (x18 - 10)) (fun x19 => some (vI x19, s14))) else none)) else none) else none) else none
theorem gX12_reads_J50 {l : Launch} {K : z_K} (hst : l.stackTraces = false) (fu : Nat) (s : z_M) (a0 : Int) : G l K mX12_reads 5 112 0 0 50 [vR a0, vU] [] s (fX12_reads_J50 fu s a0) := by
  unfold fX12_reads_J50
  refine G_aload_n (x := a0) (pc := 50) dX12_reads_50 rfl ?_
  refine G_aload_n (x := a0) (pc := 51) dX12_reads_51 rfl ?_
  refine G_getI (j := 7) (pc := 52) dX12_reads_52 rfl z_CLX12 (by decide) z_wX12_185 (by decide) (fun x12 => ?_)
  refine G_putI (j := 5) (pc := 55) dX12_reads_55 rfl z_CLX12 (by decide) z_wX12_13 rfl (by decide) (by decide) (fun s13 => ?_)
  refine G_aload_n (x := a0) (pc := 58) dX12_reads_58 rfl ?_
  refine G_callVI (as := []) (st := []) (c := 12) (bc2 := 0) (bs2 := 0) (pc := 59) dX12_reads_59 z_mX12_fine z_vX12_fine z_wX12_199 (gX12_fine hst fu s13 a0) rfl rfl (by decide) rfl rfl ⟨by decide, by decide, by decide, by decide, Nat.le_of_ble_eq_true rfl⟩ rfl (fun x15 s14 => ?_)
  refine G_if_ne (tgt := 73) (pc := 62) dX12_reads_62 ?_ ?_
  · refine G_aload_n (x := a0) (pc := 73) dX12_reads_73 rfl ?_
    refine G_callVN (as := []) (st := []) (c := 12) (bc2 := 0) (bs2 := 0) (pc := 74) dX12_reads_74 z_mX12_stands z_vX12_stands z_wX12_239 (gX12_stands hst fu s14 a0) rfl rfl (by decide) rfl rfl ⟨by decide, by decide, by decide, by decide, Nat.le_of_ble_eq_true rfl⟩ rfl (fun s16 => ?_)
    refine G_aload_n (x := a0) (pc := 77) dX12_reads_77 rfl ?_
    refine G_getI (j := 20) (pc := 78) dX12_reads_78 rfl z_CLX12 (by decide) z_wX12_242 (by decide) (fun x17 => ?_)
    exact G_iret (pc := 81) dX12_reads_81
  · refine G_aload_n (x := a0) (pc := 65) dX12_reads_65 rfl ?_
    refine G_getI (j := 6) (pc := 66) dX12_reads_66 rfl z_CLX12 (by decide) z_wX12_182 (by decide) (fun x18 => ?_)
    refine G_bipush (pc := 69) dX12_reads_69 ?_
    refine G_isub (pc := 71) dX12_reads_71 (fun x19 => ?_)
    exact G_iret (pc := 72) dX12_reads_72
def fX12_reads (fu : Nat) (s : z_M) (a0 : Int) (a1 : Int) : z_O := if z_ob a0 12 then z_let (z_up s a0 2 0) (fun s1 => if z_ob a0 12 then z_let (z_up s1 a0 3 a1) (fun s2 => if z_ob a0 12 then z_let (z_up s2 a0 4 0) (fun s3 => if z_ob a0 12 then z_let (z_up s3 a0 6 0) (fun s4 => if z_ob a0 12 then z_let (z_up s4 a0 7 (-1)) (fun s5 => fX12_reads_L25 fu a0 fu s5 (fun s11 => fX12_reads_J50 fu s11 a0)) else none) else none) else none) else none) else none
theorem gX12_reads {l : Launch} {K : z_K} (hst : l.stackTraces = false) (fu : Nat) (s : z_M) (a0 : Int) (a1 : Int) : z_D l K mX12_reads 5 112 0 0 [vR a0, vI a1] s (fX12_reads fu s a0 a1) := by
  refine z_D_of (lv := [vR a0, vI a1]) hst z_mX12_reads rfl ?_ (Nat.le_of_ble_eq_true rfl) rfl
  unfold fX12_reads
  refine G_aload_n (x := a0) (pc := 0) dX12_reads_0 rfl ?_
  refine G_iconst (pc := 1) dX12_reads_1 ?_
  refine G_putI (j := 2) (pc := 2) dX12_reads_2 rfl z_CLX12 (by decide) z_wX12_173 rfl (by decide) (by decide) (fun s1 => ?_)
  refine G_aload_n (x := a0) (pc := 5) dX12_reads_5 rfl ?_
  refine G_iload_n (x := a1) (pc := 6) dX12_reads_6 rfl ?_
  refine G_putI (j := 3) (pc := 7) dX12_reads_7 rfl z_CLX12 (by decide) z_wX12_179 rfl (by decide) (by decide) (fun s2 => ?_)
  refine G_aload_n (x := a0) (pc := 10) dX12_reads_10 rfl ?_
  refine G_iconst (pc := 11) dX12_reads_11 ?_
  refine G_putI (j := 4) (pc := 12) dX12_reads_12 rfl z_CLX12 (by decide) z_wX12_176 rfl (by decide) (by decide) (fun s3 => ?_)
  refine G_aload_n (x := a0) (pc := 15) dX12_reads_15 rfl ?_
  refine G_iconst (pc := 16) dX12_reads_16 ?_
  refine G_putI (j := 6) (pc := 17) dX12_reads_17 rfl z_CLX12 (by decide) z_wX12_182 rfl (by decide) (by decide) (fun s4 => ?_)
  refine G_aload_n (x := a0) (pc := 20) dX12_reads_20 rfl ?_
  refine G_iconst (pc := 21) dX12_reads_21 ?_
  refine G_putI (j := 7) (pc := 22) dX12_reads_22 rfl z_CLX12 (by decide) z_wX12_185 rfl (by decide) (by decide) (fun s5 => ?_)
  refine G_fg (lv2 := [vR a0, vU]) ⟨Or.inr rfl, Or.inl rfl, trivial⟩ ?_
  refine gX12_reads_L25 hst fu a0 _ (fun s11 => ?_) fu s5
  exact gX12_reads_J50 hst fu s11 a0
def fX12_text_L35 (fu : Nat) (a0 : Int) (a1 : Int) : Nat → z_M → Int → (z_M → z_O) → z_O
  | 0, _, _, _ => none
  | F + 1, s, a2, k => if (3 : Int) ≤ a2 then (k s) else (if z_ob a0 12 then z_let (z_gr a0 12) (fun x7 => if z_ix x7 103 13 then z_let (z_gr x7 13) (fun x8 => if z_ix x8 100 a2 then z_let (z_up s x8 a2 0) (fun s9 => z_let (z_w (a2 + 1)) (fun x10 => fX12_text_L35 fu a0 a1 F s9 x10 k)) else none) else none) else none)
theorem gX12_text_L35 {l : Launch} {K : z_K} (hst : l.stackTraces = false) (fu : Nat) (a0 : Int) (a1 : Int) (k : z_M → z_O) (hk : ∀ (s : z_M), G l K mX12_text 6 133 0 0 56 [vR a0, vI a1, vU] [] s (k s)) : ∀ (F : Nat) (s : z_M) (a2 : Int), G l K mX12_text 6 133 0 0 35 [vR a0, vI a1, vI a2] [] s (fX12_text_L35 fu a0 a1 F s a2 k) := by
  intro F
  induction F with
  | zero => exact fun s a2 h => absurd rfl h
  | succ F ih =>
    intro s a2
    rw [fX12_text_L35]
    refine G_iload_n (x := a2) (pc := 35) dX12_text_35 rfl ?_
    refine G_iconst (pc := 36) dX12_text_36 ?_
    refine G_icmp_ge (tgt := 56) (pc := 37) dX12_text_37 ?_ ?_
    · refine G_fg (lv2 := [vR a0, vI a1, vU]) ⟨Or.inr rfl, Or.inr rfl, Or.inl rfl, trivial⟩ ?_
      exact hk s
    · refine G_aload_n (x := a0) (pc := 40) dX12_text_40 rfl ?_
      refine G_getR (j := 12) (pc := 41) dX12_text_41 rfl z_CLX12 (by decide) z_wX12_31 (by decide) (fun x7 => ?_)
      refine G_bipush (pc := 44) dX12_text_44 ?_
      refine G_aald103 (pc := 46) dX12_text_46 (fun x8 => ?_)
      refine G_iload_n (x := a2) (pc := 47) dX12_text_47 rfl ?_
      refine G_iconst (pc := 48) dX12_text_48 ?_
      refine G_iast (pc := 49) dX12_text_49 (fun s9 => ?_)
      refine G_iinc (x := a2) (g := fun x10 => [vR a0, vI a1, vI x10]) (pc := 50) dX12_text_50 rfl (fun _ => rfl) (fun x10 => ?_)
      refine G_goto (tgt := 35) (pc := 53) dX12_text_53 ?_
      exact ih s9 x10
def fX12_text_J23 (fu : Nat) (s : z_M) (a0 : Int) (a1 : Int) (t0 : Int) (t1 : Int) : z_O := if z_ob t0 12 then z_bI (fX12_bad fu s t0 t1 1 1) (fun x6 s5 => if (x6 : Int) = 0 then (fX12_text_L35 fu a0 a1 fu s5 0 (fun s11 => if z_ob a0 12 then z_bI (fX12_reads fu s11 a0 a1) (fun x13 s12 => some (vI x13, s12)) else none)) else (some (vI 0, s5))) else none
theorem gX12_text_J23 {l : Launch} {K : z_K} (hst : l.stackTraces = false) (fu : Nat) (s : z_M) (a0 : Int) (a1 : Int) (t0 : Int) (t1 : Int) : G l K mX12_text 6 133 0 0 23 [vR a0, vI a1, vU] [vI t1, vR t0] s (fX12_text_J23 fu s a0 a1 t0 t1) := by
  unfold fX12_text_J23
  refine G_iconst (pc := 23) dX12_text_23 ?_
  refine G_iconst (pc := 24) dX12_text_24 ?_
  refine G_callVI (as := [vI t1, vI 1, vI 1]) (st := []) (c := 12) (bc2 := 0) (bs2 := 0) (pc := 25) dX12_text_25 z_mX12_bad z_vX12_bad z_wX12_249 (gX12_bad hst fu s t0 t1 1 1) rfl rfl (by decide) rfl rfl ⟨by decide, by decide, by decide, by decide, Nat.le_of_ble_eq_true rfl⟩ rfl (fun x6 s5 => ?_)
  refine G_if_eq (tgt := 33) (pc := 28) dX12_text_28 ?_ ?_
  · refine G_iconst (pc := 33) dX12_text_33 ?_
    refine G_istore_n (lv' := [vR a0, vI a1, vI 0]) (pc := 34) dX12_text_34 rfl ?_
    refine gX12_text_L35 hst fu a0 a1 _ (fun s11 => ?_) fu s5 0
    refine G_aload_n (x := a0) (pc := 56) dX12_text_56 rfl ?_
    refine G_iload_n (x := a1) (pc := 57) dX12_text_57 rfl ?_
    refine G_callVI (as := [vI a1]) (st := []) (c := 12) (bc2 := 0) (bs2 := 0) (pc := 58) dX12_text_58 z_mX12_reads z_vX12_reads z_wX12_253 (gX12_reads hst fu s11 a0 a1) rfl rfl (by decide) rfl rfl ⟨by decide, by decide, by decide, by decide, Nat.le_of_ble_eq_true rfl⟩ rfl (fun x13 s12 => ?_)
    exact G_iret (pc := 61) dX12_text_61
  · refine G_iconst (pc := 31) dX12_text_31 ?_
    exact G_iret (pc := 32) dX12_text_32
def fX12_text (fu : Nat) (s : z_M) (a0 : Int) (a1 : Int) : z_O := if z_ob a0 12 then z_let (z_up s a0 0 0) (fun s1 => if z_ob a0 12 then z_let (s1 a0 2) (fun x2 => z_bI (fX12_in fu s1 a1 0 x2) (fun x4 s3 => if (x4 : Int) ≠ 0 then (fX12_text_J23 fu s3 a0 a1 a0 0) else (fX12_text_J23 fu s3 a0 a1 a0 1))) else none) else none
theorem gX12_text {l : Launch} {K : z_K} (hst : l.stackTraces = false) (fu : Nat) (s : z_M) (a0 : Int) (a1 : Int) : z_D l K mX12_text 6 133 0 0 [vR a0, vI a1] s (fX12_text fu s a0 a1) := by
  refine z_D_of (lv := [vR a0, vI a1, vU]) hst z_mX12_text rfl ?_ (Nat.le_of_ble_eq_true rfl) rfl
  unfold fX12_text
  refine G_aload_n (x := a0) (pc := 0) dX12_text_0 rfl ?_
  refine G_iconst (pc := 1) dX12_text_1 ?_
  refine G_putI (j := 0) (pc := 2) dX12_text_2 rfl z_CLX12 (by decide) z_wX12_170 rfl (by decide) (by decide) (fun s1 => ?_)
  refine G_aload_n (x := a0) (pc := 5) dX12_text_5 rfl ?_
  refine G_iload_n (x := a1) (pc := 6) dX12_text_6 rfl ?_
  refine G_iconst (pc := 7) dX12_text_7 ?_
  refine G_aload_n (x := a0) (pc := 8) dX12_text_8 rfl ?_
  refine G_getI (j := 2) (pc := 9) dX12_text_9 rfl z_CLX12 (by decide) z_wX12_173 (by decide) (fun x2 => ?_)
  refine G_callSI (as := [vI a1, vI 0, vI x2]) (st := [vR a0]) (bc2 := 0) (bs2 := 0) (pc := 12) dX12_text_12 z_mX12_in z_sX12_in z_wX12_245 (gX12_in hst fu s1 a1 0 x2) rfl rfl ⟨by decide, by decide, by decide, by decide, Nat.le_of_ble_eq_true rfl⟩ rfl (fun x4 s3 => ?_)
  refine G_if_ne (tgt := 22) (pc := 15) dX12_text_15 ?_ ?_
  · refine G_iconst (pc := 22) dX12_text_22 ?_
    exact gX12_text_J23 hst fu s3 a0 a1 a0 0
  · refine G_iconst (pc := 18) dX12_text_18 ?_
    refine G_goto (tgt := 23) (pc := 19) dX12_text_19 ?_
    exact gX12_text_J23 hst fu s3 a0 a1 a0 1
def fX12_more__J23 (fu : Nat) (s : z_M) (a0 : Int) (a1 : Int) (t0 : Int) (t1 : Int) : z_O := if z_ob t0 12 then z_bI (fX12_bad fu s t0 t1 1 1) (fun x6 s5 => if (x6 : Int) = 0 then (if z_ob a0 12 then z_bN (fX12_copies fu s5 a0 0 13) (fun s7 => if z_ob a0 12 then z_bI (fX12_reads fu s7 a0 a1) (fun x9 s8 => some (vI x9, s8)) else none) else none) else (some (vI 0, s5))) else none
theorem gX12_more__J23 {l : Launch} {K : z_K} (hst : l.stackTraces = false) (fu : Nat) (s : z_M) (a0 : Int) (a1 : Int) (t0 : Int) (t1 : Int) : G l K mX12_more_ 6 133 0 0 23 [vR a0, vI a1] [vI t1, vR t0] s (fX12_more__J23 fu s a0 a1 t0 t1) := by
  unfold fX12_more__J23
  refine G_iconst (pc := 23) dX12_more__23 ?_
  refine G_iconst (pc := 24) dX12_more__24 ?_
  refine G_callVI (as := [vI t1, vI 1, vI 1]) (st := []) (c := 12) (bc2 := 0) (bs2 := 0) (pc := 25) dX12_more__25 z_mX12_bad z_vX12_bad z_wX12_249 (gX12_bad hst fu s t0 t1 1 1) rfl rfl (by decide) rfl rfl ⟨by decide, by decide, by decide, by decide, Nat.le_of_ble_eq_true rfl⟩ rfl (fun x6 s5 => ?_)
  refine G_if_eq (tgt := 33) (pc := 28) dX12_more__28 ?_ ?_
  · refine G_aload_n (x := a0) (pc := 33) dX12_more__33 rfl ?_
    refine G_iconst (pc := 34) dX12_more__34 ?_
    refine G_bipush (pc := 35) dX12_more__35 ?_
    refine G_callVN (as := [vI 0, vI 13]) (st := []) (c := 12) (bc2 := 0) (bs2 := 0) (pc := 37) dX12_more__37 z_mX12_copies z_vX12_copies z_wX12_230 (gX12_copies hst fu s5 a0 0 13) rfl rfl (by decide) rfl rfl ⟨by decide, by decide, by decide, by decide, Nat.le_of_ble_eq_true rfl⟩ rfl (fun s7 => ?_)
    refine G_aload_n (x := a0) (pc := 40) dX12_more__40 rfl ?_
    refine G_iload_n (x := a1) (pc := 41) dX12_more__41 rfl ?_
    refine G_callVI (as := [vI a1]) (st := []) (c := 12) (bc2 := 0) (bs2 := 0) (pc := 42) dX12_more__42 z_mX12_reads z_vX12_reads z_wX12_253 (gX12_reads hst fu s7 a0 a1) rfl rfl (by decide) rfl rfl ⟨by decide, by decide, by decide, by decide, Nat.le_of_ble_eq_true rfl⟩ rfl (fun x9 s8 => ?_)
    exact G_iret (pc := 45) dX12_more__45
  · refine G_iconst (pc := 31) dX12_more__31 ?_
    exact G_iret (pc := 32) dX12_more__32
def fX12_more_ (fu : Nat) (s : z_M) (a0 : Int) (a1 : Int) : z_O := if z_ob a0 12 then z_let (z_up s a0 0 0) (fun s1 => if z_ob a0 12 then z_let (s1 a0 2) (fun x2 => z_bI (fX12_in fu s1 a1 0 x2) (fun x4 s3 => if (x4 : Int) ≠ 0 then (fX12_more__J23 fu s3 a0 a1 a0 0) else (fX12_more__J23 fu s3 a0 a1 a0 1))) else none) else none
theorem gX12_more_ {l : Launch} {K : z_K} (hst : l.stackTraces = false) (fu : Nat) (s : z_M) (a0 : Int) (a1 : Int) : z_D l K mX12_more_ 6 133 0 0 [vR a0, vI a1] s (fX12_more_ fu s a0 a1) := by
  refine z_D_of (lv := [vR a0, vI a1]) hst z_mX12_more_ rfl ?_ (Nat.le_of_ble_eq_true rfl) rfl
  unfold fX12_more_
  refine G_aload_n (x := a0) (pc := 0) dX12_more__0 rfl ?_
  refine G_iconst (pc := 1) dX12_more__1 ?_
  refine G_putI (j := 0) (pc := 2) dX12_more__2 rfl z_CLX12 (by decide) z_wX12_170 rfl (by decide) (by decide) (fun s1 => ?_)
  refine G_aload_n (x := a0) (pc := 5) dX12_more__5 rfl ?_
  refine G_iload_n (x := a1) (pc := 6) dX12_more__6 rfl ?_
  refine G_iconst (pc := 7) dX12_more__7 ?_
  refine G_aload_n (x := a0) (pc := 8) dX12_more__8 rfl ?_
  refine G_getI (j := 2) (pc := 9) dX12_more__9 rfl z_CLX12 (by decide) z_wX12_173 (by decide) (fun x2 => ?_)
  refine G_callSI (as := [vI a1, vI 0, vI x2]) (st := [vR a0]) (bc2 := 0) (bs2 := 0) (pc := 12) dX12_more__12 z_mX12_in z_sX12_in z_wX12_245 (gX12_in hst fu s1 a1 0 x2) rfl rfl ⟨by decide, by decide, by decide, by decide, Nat.le_of_ble_eq_true rfl⟩ rfl (fun x4 s3 => ?_)
  refine G_if_ne (tgt := 22) (pc := 15) dX12_more__15 ?_ ?_
  · refine G_iconst (pc := 22) dX12_more__22 ?_
    exact gX12_more__J23 hst fu s3 a0 a1 a0 0
  · refine G_iconst (pc := 18) dX12_more__18 ?_
    refine G_goto (tgt := 23) (pc := 19) dX12_more__19 ?_
    exact gX12_more__J23 hst fu s3 a0 a1 a0 1
def fX12_fault (fu : Nat) (s : z_M) (a0 : Int) : z_O := if z_ob a0 12 then z_let (z_up s a0 0 0) (fun s1 => if z_ob a0 12 then z_let (s1 a0 5) (fun x2 => some (vI x2, s1)) else none) else none
theorem gX12_fault {l : Launch} {K : z_K} (hst : l.stackTraces = false) (fu : Nat) (s : z_M) (a0 : Int) : z_D l K mX12_fault 0 0 0 0 [vR a0] s (fX12_fault fu s a0) := by
  refine z_D_of (lv := [vR a0]) hst z_mX12_fault rfl ?_ (Nat.le_of_ble_eq_true rfl) rfl
  unfold fX12_fault
  refine G_aload_n (x := a0) (pc := 0) dX12_fault_0 rfl ?_
  refine G_iconst (pc := 1) dX12_fault_1 ?_
  refine G_putI (j := 0) (pc := 2) dX12_fault_2 rfl z_CLX12 (by decide) z_wX12_170 rfl (by decide) (by decide) (fun s1 => ?_)
  refine G_aload_n (x := a0) (pc := 5) dX12_fault_5 rfl ?_
  refine G_getI (j := 5) (pc := 6) dX12_fault_6 rfl z_CLX12 (by decide) z_wX12_13 (by decide) (fun x2 => ?_)
  exact G_iret (pc := 9) dX12_fault_9
def fX12_undo (fu : Nat) (s : z_M) (a0 : Int) : z_O := if z_ob a0 12 then z_let (z_up s a0 0 0) (fun s1 => if z_ob a0 12 then z_let (s1 a0 19) (fun x2 => if (x2 : Int) ≠ 0 then (if z_ob a0 12 then z_let (s1 a0 19) (fun x3 => if z_ob a0 12 then z_bN (fX12_copies fu s1 a0 x3 0) (fun s4 => if z_ob a0 12 then z_let (s4 a0 19) (fun x5 => z_let (z_w (x5 - 1)) (fun x6 => if z_ob a0 12 then z_let (z_up s4 a0 19 x6) (fun s7 => if z_ob a0 12 then z_bN (fX12_laysUnits fu s7 a0) (fun s8 => if z_ob a0 12 then z_let (s8 a0 20) (fun x9 => some (vI x9, s8)) else none) else none) else none)) else none) else none) else none) else (some (vI (-1), s1))) else none) else none
theorem gX12_undo {l : Launch} {K : z_K} (hst : l.stackTraces = false) (fu : Nat) (s : z_M) (a0 : Int) : z_D l K mX12_undo 2 42 0 0 [vR a0] s (fX12_undo fu s a0) := by
  refine z_D_of (lv := [vR a0]) hst z_mX12_undo rfl ?_ (Nat.le_of_ble_eq_true rfl) rfl
  unfold fX12_undo
  refine G_aload_n (x := a0) (pc := 0) dX12_undo_0 rfl ?_
  refine G_iconst (pc := 1) dX12_undo_1 ?_
  refine G_putI (j := 0) (pc := 2) dX12_undo_2 rfl z_CLX12 (by decide) z_wX12_170 rfl (by decide) (by decide) (fun s1 => ?_)
  refine G_aload_n (x := a0) (pc := 5) dX12_undo_5 rfl ?_
  refine G_getI (j := 19) (pc := 6) dX12_undo_6 rfl z_CLX12 (by decide) z_wX12_227 (by decide) (fun x2 => ?_)
  refine G_if_ne (tgt := 14) (pc := 9) dX12_undo_9 ?_ ?_
  · refine G_aload_n (x := a0) (pc := 14) dX12_undo_14 rfl ?_
    refine G_aload_n (x := a0) (pc := 15) dX12_undo_15 rfl ?_
    refine G_getI (j := 19) (pc := 16) dX12_undo_16 rfl z_CLX12 (by decide) z_wX12_227 (by decide) (fun x3 => ?_)
    refine G_iconst (pc := 19) dX12_undo_19 ?_
    refine G_callVN (as := [vI x3, vI 0]) (st := []) (c := 12) (bc2 := 0) (bs2 := 0) (pc := 20) dX12_undo_20 z_mX12_copies z_vX12_copies z_wX12_230 (gX12_copies hst fu s1 a0 x3 0) rfl rfl (by decide) rfl rfl ⟨by decide, by decide, by decide, by decide, Nat.le_of_ble_eq_true rfl⟩ rfl (fun s4 => ?_)
    refine G_aload_n (x := a0) (pc := 23) dX12_undo_23 rfl ?_
    refine G_dupR (pc := 24) dX12_undo_24 ?_
    refine G_getI (j := 19) (pc := 25) dX12_undo_25 rfl z_CLX12 (by decide) z_wX12_227 (by decide) (fun x5 => ?_)
    refine G_iconst (pc := 28) dX12_undo_28 ?_
    refine G_isub (pc := 29) dX12_undo_29 (fun x6 => ?_)
    refine G_putI (j := 19) (pc := 30) dX12_undo_30 rfl z_CLX12 (by decide) z_wX12_227 rfl (by decide) (by decide) (fun s7 => ?_)
    refine G_aload_n (x := a0) (pc := 33) dX12_undo_33 rfl ?_
    refine G_callVN (as := []) (st := []) (c := 12) (bc2 := 0) (bs2 := 0) (pc := 34) dX12_undo_34 z_mX12_laysUnits z_vX12_laysUnits z_wX12_233 (gX12_laysUnits hst fu s7 a0) rfl rfl (by decide) rfl rfl ⟨by decide, by decide, by decide, by decide, Nat.le_of_ble_eq_true rfl⟩ rfl (fun s8 => ?_)
    refine G_aload_n (x := a0) (pc := 37) dX12_undo_37 rfl ?_
    refine G_getI (j := 20) (pc := 38) dX12_undo_38 rfl z_CLX12 (by decide) z_wX12_242 (by decide) (fun x9 => ?_)
    exact G_iret (pc := 41) dX12_undo_41
  · refine G_iconst (pc := 12) dX12_undo_12 ?_
    exact G_iret (pc := 13) dX12_undo_13
def fX12_more_J10 (fu : Nat) (s : z_M) (t0 : Int) : z_O := some (vI t0, s)
theorem gX12_more_J10 {l : Launch} {K : z_K} (hst : l.stackTraces = false) (fu : Nat) (s : z_M) (t0 : Int) : G l K mX12_more 0 0 0 0 10 [vU, vU] [vI t0] s (fX12_more_J10 fu s t0) := by
  unfold fX12_more_J10
  exact G_iret (pc := 10) dX12_more_10
def fX12_more (fu : Nat) (s : z_M) (a0 : Int) (a1 : Int) : z_O := if (a0 : Int) ≤ a1 then (fX12_more_J10 fu s a1) else (fX12_more_J10 fu s a0)
theorem gX12_more {l : Launch} {K : z_K} (hst : l.stackTraces = false) (fu : Nat) (s : z_M) (a0 : Int) (a1 : Int) : z_D l K mX12_more 0 0 0 0 [vI a0, vI a1] s (fX12_more fu s a0 a1) := by
  refine z_D_of (lv := [vI a0, vI a1]) hst z_mX12_more rfl ?_ (Nat.le_of_ble_eq_true rfl) rfl
  unfold fX12_more
  refine G_iload_n (x := a0) (pc := 0) dX12_more_0 rfl ?_
  refine G_iload_n (x := a1) (pc := 1) dX12_more_1 rfl ?_
  refine G_icmp_le (tgt := 9) (pc := 2) dX12_more_2 ?_ ?_
  · refine G_iload_n (x := a1) (pc := 9) dX12_more_9 rfl ?_
    refine G_fg (lv2 := [vU, vU]) ⟨Or.inl rfl, Or.inl rfl, trivial⟩ ?_
    exact gX12_more_J10 hst fu s a1
  · refine G_iload_n (x := a0) (pc := 5) dX12_more_5 rfl ?_
    refine G_goto (tgt := 10) (pc := 6) dX12_more_6 ?_
    refine G_fg (lv2 := [vU, vU]) ⟨Or.inl rfl, Or.inl rfl, trivial⟩ ?_
    exact gX12_more_J10 hst fu s a0
def fX12_less_J10 (fu : Nat) (s : z_M) (t0 : Int) : z_O := some (vI t0, s)
theorem gX12_less_J10 {l : Launch} {K : z_K} (hst : l.stackTraces = false) (fu : Nat) (s : z_M) (t0 : Int) : G l K mX12_less 0 0 0 0 10 [vU, vU] [vI t0] s (fX12_less_J10 fu s t0) := by
  unfold fX12_less_J10
  exact G_iret (pc := 10) dX12_less_10
def fX12_less (fu : Nat) (s : z_M) (a0 : Int) (a1 : Int) : z_O := if (a1 : Int) ≤ a0 then (fX12_less_J10 fu s a1) else (fX12_less_J10 fu s a0)
theorem gX12_less {l : Launch} {K : z_K} (hst : l.stackTraces = false) (fu : Nat) (s : z_M) (a0 : Int) (a1 : Int) : z_D l K mX12_less 0 0 0 0 [vI a0, vI a1] s (fX12_less fu s a0 a1) := by
  refine z_D_of (lv := [vI a0, vI a1]) hst z_mX12_less rfl ?_ (Nat.le_of_ble_eq_true rfl) rfl
  unfold fX12_less
  refine G_iload_n (x := a0) (pc := 0) dX12_less_0 rfl ?_
  refine G_iload_n (x := a1) (pc := 1) dX12_less_1 rfl ?_
  refine G_icmp_ge (tgt := 9) (pc := 2) dX12_less_2 ?_ ?_
  · refine G_iload_n (x := a1) (pc := 9) dX12_less_9 rfl ?_
    refine G_fg (lv2 := [vU, vU]) ⟨Or.inl rfl, Or.inl rfl, trivial⟩ ?_
    exact gX12_less_J10 hst fu s a1
  · refine G_iload_n (x := a0) (pc := 5) dX12_less_5 rfl ?_
    refine G_goto (tgt := 10) (pc := 6) dX12_less_6 ?_
    refine G_fg (lv2 := [vU, vU]) ⟨Or.inl rfl, Or.inl rfl, trivial⟩ ?_
    exact gX12_less_J10 hst fu s a0
def fX12_set_J46 (fu : Nat) (s : z_M) (a0 : Int) (a1 : Int) (a2 : Int) (t0 : Int) (t1 : Int) : z_O := if z_ob t0 12 then z_bI (fX12_bad fu s t0 t1 1 1) (fun x7 s6 => if (x7 : Int) = 0 then (if z_ob a0 12 then z_let (z_gr a0 9) (fun x8 => if z_ix x8 100 a1 then z_let (s6 x8 a1) (fun x9 => if z_ob a0 12 then z_let (z_gr a0 9) (fun x10 => if z_ix x10 100 a1 then z_let (z_up s6 x10 a1 a2) (fun s11 => if z_ob a0 12 ∧ z_bl 0 then z_let (z_up s11 a0 36 0) (fun s12 => some (vI x9, s12)) else none) else none) else none) else none) else none) else (some (vI 0, s6))) else none
theorem gX12_set_J46 {l : Launch} {K : z_K} (hst : l.stackTraces = false) (fu : Nat) (s : z_M) (a0 : Int) (a1 : Int) (a2 : Int) (t0 : Int) (t1 : Int) : G l K mX12_set 1 23 0 0 46 [vR a0, vI a1, vI a2, vU, vU] [vI t1, vR t0] s (fX12_set_J46 fu s a0 a1 a2 t0 t1) := by
  unfold fX12_set_J46
  refine G_iconst (pc := 46) dX12_set_46 ?_
  refine G_iconst (pc := 47) dX12_set_47 ?_
  refine G_callVI (as := [vI t1, vI 1, vI 1]) (st := []) (c := 12) (bc2 := 0) (bs2 := 0) (pc := 48) dX12_set_48 z_mX12_bad z_vX12_bad z_wX12_249 (gX12_bad hst fu s t0 t1 1 1) rfl rfl (by decide) rfl rfl ⟨by decide, by decide, by decide, by decide, Nat.le_of_ble_eq_true rfl⟩ rfl (fun x7 s6 => ?_)
  refine G_if_eq (tgt := 56) (pc := 51) dX12_set_51 ?_ ?_
  · refine G_aload_n (x := a0) (pc := 56) dX12_set_56 rfl ?_
    refine G_getR (j := 9) (pc := 57) dX12_set_57 rfl z_CLX12 (by decide) z_wX12_20 (by decide) (fun x8 => ?_)
    refine G_iload_n (x := a1) (pc := 60) dX12_set_60 rfl ?_
    refine G_iald (pc := 61) dX12_set_61 (fun x9 => ?_)
    refine G_istore (lv' := [vR a0, vI a1, vI a2, vU, vI x9]) (pc := 62) dX12_set_62 rfl ?_
    refine G_aload_n (x := a0) (pc := 64) dX12_set_64 rfl ?_
    refine G_getR (j := 9) (pc := 65) dX12_set_65 rfl z_CLX12 (by decide) z_wX12_20 (by decide) (fun x10 => ?_)
    refine G_iload_n (x := a1) (pc := 68) dX12_set_68 rfl ?_
    refine G_iload_n (x := a2) (pc := 69) dX12_set_69 rfl ?_
    refine G_iast (pc := 70) dX12_set_70 (fun s11 => ?_)
    refine G_aload_n (x := a0) (pc := 71) dX12_set_71 rfl ?_
    refine G_iconst (pc := 72) dX12_set_72 ?_
    refine G_putZ (j := 36) (pc := 73) dX12_set_73 rfl z_CLX12 (by decide) z_wX12_263 rfl (by decide) (fun s12 => ?_)
    refine G_iload (x := x9) (pc := 76) dX12_set_76 rfl ?_
    exact G_iret (pc := 78) dX12_set_78
  · refine G_iconst (pc := 54) dX12_set_54 ?_
    exact G_iret (pc := 55) dX12_set_55
def fX12_set_J41 (fu : Nat) (s : z_M) (a0 : Int) (a1 : Int) (a2 : Int) (t0 : Int) : z_O := fX12_set_J46 fu s a0 a1 a2 t0 1
theorem gX12_set_J41 {l : Launch} {K : z_K} (hst : l.stackTraces = false) (fu : Nat) (s : z_M) (a0 : Int) (a1 : Int) (a2 : Int) (t0 : Int) : G l K mX12_set 1 23 0 0 41 [vR a0, vI a1, vI a2, vU, vU] [vR t0] s (fX12_set_J41 fu s a0 a1 a2 t0) := by
  unfold fX12_set_J41
  refine G_iconst (pc := 41) dX12_set_41 ?_
  refine G_goto (tgt := 46) (pc := 42) dX12_set_42 ?_
  exact gX12_set_J46 hst fu s a0 a1 a2 t0 1
def fX12_set (fu : Nat) (s : z_M) (a0 : Int) (a1 : Int) (a2 : Int) : z_O := if z_ob a0 12 then z_let (z_up s a0 0 0) (fun s1 => z_bI (fX12_more fu s1 a1 0) (fun x3 s2 => z_bI (fX12_less fu s2 x3 8) (fun x5 s4 => if (a1 : Int) ≠ x5 then (fX12_set_J41 fu s4 a0 a1 a2 a0) else (if z_ob a0 12 then z_let (z_gr a0 10) (fun x13 => if z_ix x13 100 x5 then z_let (s4 x13 x5) (fun x14 => if z_ob a0 12 then z_let (z_gr a0 11) (fun x15 => if z_ix x15 100 x5 then z_let (s4 x15 x5) (fun x16 => z_bI (fX12_in fu s4 a2 x14 x16) (fun x18 s17 => if (x18 : Int) ≠ 0 then (fX12_set_J46 fu s17 a0 a1 a2 a0 0) else (fX12_set_J41 fu s17 a0 a1 a2 a0))) else none) else none) else none) else none)))) else none
theorem gX12_set {l : Launch} {K : z_K} (hst : l.stackTraces = false) (fu : Nat) (s : z_M) (a0 : Int) (a1 : Int) (a2 : Int) : z_D l K mX12_set 1 23 0 0 [vR a0, vI a1, vI a2] s (fX12_set fu s a0 a1 a2) := by
  refine z_D_of (lv := [vR a0, vI a1, vI a2, vU, vU]) hst z_mX12_set rfl ?_ (Nat.le_of_ble_eq_true rfl) rfl
  unfold fX12_set
  refine G_aload_n (x := a0) (pc := 0) dX12_set_0 rfl ?_
  refine G_iconst (pc := 1) dX12_set_1 ?_
  refine G_putI (j := 0) (pc := 2) dX12_set_2 rfl z_CLX12 (by decide) z_wX12_170 rfl (by decide) (by decide) (fun s1 => ?_)
  refine G_iload_n (x := a1) (pc := 5) dX12_set_5 rfl ?_
  refine G_iconst (pc := 6) dX12_set_6 ?_
  refine G_callSI (as := [vI a1, vI 0]) (st := []) (bc2 := 0) (bs2 := 0) (pc := 7) dX12_set_7 z_mX12_more z_sX12_more z_wX12_256 (gX12_more hst fu s1 a1 0) rfl rfl ⟨by decide, by decide, by decide, by decide, Nat.le_of_ble_eq_true rfl⟩ rfl (fun x3 s2 => ?_)
  refine G_bipush (pc := 10) dX12_set_10 ?_
  refine G_callSI (as := [vI x3, vI 8]) (st := []) (bc2 := 0) (bs2 := 0) (pc := 12) dX12_set_12 z_mX12_less z_sX12_less z_wX12_260 (gX12_less hst fu s2 x3 8) rfl rfl ⟨by decide, by decide, by decide, by decide, Nat.le_of_ble_eq_true rfl⟩ rfl (fun x5 s4 => ?_)
  refine G_istore_n (lv' := [vR a0, vI a1, vI a2, vI x5, vU]) (pc := 15) dX12_set_15 rfl ?_
  refine G_aload_n (x := a0) (pc := 16) dX12_set_16 rfl ?_
  refine G_iload_n (x := a1) (pc := 17) dX12_set_17 rfl ?_
  refine G_iload_n (x := x5) (pc := 18) dX12_set_18 rfl ?_
  refine G_icmp_ne (tgt := 41) (pc := 19) dX12_set_19 ?_ ?_
  · refine G_fg (lv2 := [vR a0, vI a1, vI a2, vU, vU]) ⟨Or.inr rfl, Or.inr rfl, Or.inr rfl, Or.inl rfl, Or.inl rfl, trivial⟩ ?_
    exact gX12_set_J41 hst fu s4 a0 a1 a2 a0
  · refine G_iload_n (x := a2) (pc := 22) dX12_set_22 rfl ?_
    refine G_aload_n (x := a0) (pc := 23) dX12_set_23 rfl ?_
    refine G_getR (j := 10) (pc := 24) dX12_set_24 rfl z_CLX12 (by decide) z_wX12_23 (by decide) (fun x13 => ?_)
    refine G_iload_n (x := x5) (pc := 27) dX12_set_27 rfl ?_
    refine G_iald (pc := 28) dX12_set_28 (fun x14 => ?_)
    refine G_aload_n (x := a0) (pc := 29) dX12_set_29 rfl ?_
    refine G_getR (j := 11) (pc := 30) dX12_set_30 rfl z_CLX12 (by decide) z_wX12_26 (by decide) (fun x15 => ?_)
    refine G_iload_n (x := x5) (pc := 33) dX12_set_33 rfl ?_
    refine G_iald (pc := 34) dX12_set_34 (fun x16 => ?_)
    refine G_callSI (as := [vI a2, vI x14, vI x16]) (st := [vR a0]) (bc2 := 0) (bs2 := 0) (pc := 35) dX12_set_35 z_mX12_in z_sX12_in z_wX12_245 (gX12_in hst fu s4 a2 x14 x16) rfl rfl ⟨by decide, by decide, by decide, by decide, Nat.le_of_ble_eq_true rfl⟩ rfl (fun x18 s17 => ?_)
    refine G_if_ne (tgt := 45) (pc := 38) dX12_set_38 ?_ ?_
    · refine G_iconst (pc := 45) dX12_set_45 ?_
      refine G_fg (lv2 := [vR a0, vI a1, vI a2, vU, vU]) ⟨Or.inr rfl, Or.inr rfl, Or.inr rfl, Or.inl rfl, Or.inl rfl, trivial⟩ ?_
      exact gX12_set_J46 hst fu s17 a0 a1 a2 a0 0
    · refine G_fg (lv2 := [vR a0, vI a1, vI a2, vU, vU]) ⟨Or.inr rfl, Or.inr rfl, Or.inr rfl, Or.inl rfl, Or.inl rfl, trivial⟩ ?_
      exact gX12_set_J41 hst fu s17 a0 a1 a2 a0
def fX12_isAcross_J40 (fu : Nat) (s : z_M) (t0 : Int) : z_O := if z_bl t0 then some (vI t0, s) else none
theorem gX12_isAcross_J40 {l : Launch} {K : z_K} (hst : l.stackTraces = false) (fu : Nat) (s : z_M) (t0 : Int) : G l K mX12_isAcross 0 0 0 0 40 [vU, vU] [vI t0] s (fX12_isAcross_J40 fu s t0) := by
  unfold fX12_isAcross_J40
  exact G_zret (pc := 40) dX12_isAcross_40
def fX12_isAcross_J39 (fu : Nat) (s : z_M) : z_O := fX12_isAcross_J40 fu s 0
theorem gX12_isAcross_J39 {l : Launch} {K : z_K} (hst : l.stackTraces = false) (fu : Nat) (s : z_M) : G l K mX12_isAcross 0 0 0 0 39 [vU, vU] [] s (fX12_isAcross_J39 fu s) := by
  unfold fX12_isAcross_J39
  refine G_iconst (pc := 39) dX12_isAcross_39 ?_
  exact gX12_isAcross_J40 hst fu s 0
def fX12_isAcross (fu : Nat) (s : z_M) (a0 : Int) (a1 : Int) : z_O := if z_ob a0 12 then z_let (z_gr a0 21) (fun x1 => if z_ix x1 100 a1 then z_let (s x1 a1) (fun x2 => if (x2 : Int) ≠ 2 then (fX12_isAcross_J39 fu s) else (if z_ob a0 12 then z_let (z_gr a0 9) (fun x3 => if z_ix x3 100 5 then z_let (s x3 5) (fun x4 => if (x4 : Int) ≠ 1 then (fX12_isAcross_J39 fu s) else (if z_ob a0 12 then z_let (z_gr a0 23) (fun x5 => if z_ix x5 100 a1 then z_let (s x5 a1) (fun x6 => if z_ob a0 12 then z_let (z_gr a0 9) (fun x7 => if z_ix x7 100 1 then z_let (s x7 1) (fun x8 => if (x8 : Int) < x6 then (fX12_isAcross_J39 fu s) else (fX12_isAcross_J40 fu s 1)) else none) else none) else none) else none)) else none) else none)) else none) else none
theorem gX12_isAcross {l : Launch} {K : z_K} (hst : l.stackTraces = false) (fu : Nat) (s : z_M) (a0 : Int) (a1 : Int) : z_D l K mX12_isAcross 0 0 0 0 [vR a0, vI a1] s (fX12_isAcross fu s a0 a1) := by
  refine z_D_of (lv := [vR a0, vI a1]) hst z_mX12_isAcross rfl ?_ (Nat.le_of_ble_eq_true rfl) rfl
  unfold fX12_isAcross
  refine G_aload_n (x := a0) (pc := 0) dX12_isAcross_0 rfl ?_
  refine G_getR (j := 21) (pc := 1) dX12_isAcross_1 rfl z_CLX12 (by decide) z_wX12_54 (by decide) (fun x1 => ?_)
  refine G_iload_n (x := a1) (pc := 4) dX12_isAcross_4 rfl ?_
  refine G_iald (pc := 5) dX12_isAcross_5 (fun x2 => ?_)
  refine G_iconst (pc := 6) dX12_isAcross_6 ?_
  refine G_icmp_ne (tgt := 39) (pc := 7) dX12_isAcross_7 ?_ ?_
  · refine G_fg (lv2 := [vU, vU]) ⟨Or.inl rfl, Or.inl rfl, trivial⟩ ?_
    exact gX12_isAcross_J39 hst fu s
  · refine G_aload_n (x := a0) (pc := 10) dX12_isAcross_10 rfl ?_
    refine G_getR (j := 9) (pc := 11) dX12_isAcross_11 rfl z_CLX12 (by decide) z_wX12_20 (by decide) (fun x3 => ?_)
    refine G_iconst (pc := 14) dX12_isAcross_14 ?_
    refine G_iald (pc := 15) dX12_isAcross_15 (fun x4 => ?_)
    refine G_iconst (pc := 16) dX12_isAcross_16 ?_
    refine G_icmp_ne (tgt := 39) (pc := 17) dX12_isAcross_17 ?_ ?_
    · refine G_fg (lv2 := [vU, vU]) ⟨Or.inl rfl, Or.inl rfl, trivial⟩ ?_
      exact gX12_isAcross_J39 hst fu s
    · refine G_aload_n (x := a0) (pc := 20) dX12_isAcross_20 rfl ?_
      refine G_getR (j := 23) (pc := 21) dX12_isAcross_21 rfl z_CLX12 (by decide) z_wX12_60 (by decide) (fun x5 => ?_)
      refine G_iload_n (x := a1) (pc := 24) dX12_isAcross_24 rfl ?_
      refine G_iald (pc := 25) dX12_isAcross_25 (fun x6 => ?_)
      refine G_aload_n (x := a0) (pc := 26) dX12_isAcross_26 rfl ?_
      refine G_getR (j := 9) (pc := 27) dX12_isAcross_27 rfl z_CLX12 (by decide) z_wX12_20 (by decide) (fun x7 => ?_)
      refine G_iconst (pc := 30) dX12_isAcross_30 ?_
      refine G_iald (pc := 31) dX12_isAcross_31 (fun x8 => ?_)
      refine G_icmp_gt (tgt := 39) (pc := 32) dX12_isAcross_32 ?_ ?_
      · refine G_fg (lv2 := [vU, vU]) ⟨Or.inl rfl, Or.inl rfl, trivial⟩ ?_
        exact gX12_isAcross_J39 hst fu s
      · refine G_iconst (pc := 35) dX12_isAcross_35 ?_
        refine G_goto (tgt := 40) (pc := 36) dX12_isAcross_36 ?_
        refine G_fg (lv2 := [vU, vU]) ⟨Or.inl rfl, Or.inl rfl, trivial⟩ ?_
        exact gX12_isAcross_J40 hst fu s 1
def fX12_wide_J41 (fu : Nat) (s : z_M) (t0 : Int) : z_O := some (vI t0, s)
theorem gX12_wide_J41 {l : Launch} {K : z_K} (hst : l.stackTraces = false) (fu : Nat) (s : z_M) (t0 : Int) : G l K mX12_wide 0 0 0 0 41 [vU] [vI t0] s (fX12_wide_J41 fu s t0) := by
  unfold fX12_wide_J41
  exact G_iret (pc := 41) dX12_wide_41
def fX12_wide_J18 (fu : Nat) (s : z_M) : z_O := fX12_wide_J41 fu s 4
theorem gX12_wide_J18 {l : Launch} {K : z_K} (hst : l.stackTraces = false) (fu : Nat) (s : z_M) : G l K mX12_wide 0 0 0 0 18 [vU] [] s (fX12_wide_J18 fu s) := by
  unfold fX12_wide_J18
  refine G_iconst (pc := 18) dX12_wide_18 ?_
  refine G_goto (tgt := 41) (pc := 19) dX12_wide_19 ?_
  exact gX12_wide_J41 hst fu s 4
def fX12_wide_J34 (fu : Nat) (s : z_M) : z_O := fX12_wide_J41 fu s 9
theorem gX12_wide_J34 {l : Launch} {K : z_K} (hst : l.stackTraces = false) (fu : Nat) (s : z_M) : G l K mX12_wide 0 0 0 0 34 [vU] [] s (fX12_wide_J34 fu s) := by
  unfold fX12_wide_J34
  refine G_bipush (pc := 34) dX12_wide_34 ?_
  refine G_goto (tgt := 41) (pc := 36) dX12_wide_36 ?_
  exact gX12_wide_J41 hst fu s 9
def fX12_wide (fu : Nat) (s : z_M) (a0 : Int) : z_O := if (a0 : Int) = 105 then (fX12_wide_J18 fu s) else (if (a0 : Int) = 106 then (fX12_wide_J18 fu s) else (if (a0 : Int) ≠ 108 then (if (a0 : Int) = 109 then (fX12_wide_J34 fu s) else (if (a0 : Int) ≠ 119 then (fX12_wide_J41 fu s 6) else (fX12_wide_J34 fu s))) else (fX12_wide_J18 fu s)))
theorem gX12_wide {l : Launch} {K : z_K} (hst : l.stackTraces = false) (fu : Nat) (s : z_M) (a0 : Int) : z_D l K mX12_wide 0 0 0 0 [vI a0] s (fX12_wide fu s a0) := by
  refine z_D_of (lv := [vI a0]) hst z_mX12_wide rfl ?_ (Nat.le_of_ble_eq_true rfl) rfl
  unfold fX12_wide
  refine G_iload_n (x := a0) (pc := 0) dX12_wide_0 rfl ?_
  refine G_bipush (pc := 1) dX12_wide_1 ?_
  refine G_icmp_eq (tgt := 18) (pc := 3) dX12_wide_3 ?_ ?_
  · refine G_fg (lv2 := [vU]) ⟨Or.inl rfl, trivial⟩ ?_
    exact gX12_wide_J18 hst fu s
  · refine G_iload_n (x := a0) (pc := 6) dX12_wide_6 rfl ?_
    refine G_bipush (pc := 7) dX12_wide_7 ?_
    refine G_icmp_eq (tgt := 18) (pc := 9) dX12_wide_9 ?_ ?_
    · refine G_fg (lv2 := [vU]) ⟨Or.inl rfl, trivial⟩ ?_
      exact gX12_wide_J18 hst fu s
    · refine G_iload_n (x := a0) (pc := 12) dX12_wide_12 rfl ?_
      refine G_bipush (pc := 13) dX12_wide_13 ?_
      refine G_icmp_ne (tgt := 22) (pc := 15) dX12_wide_15 ?_ ?_
      · refine G_iload_n (x := a0) (pc := 22) dX12_wide_22 rfl ?_
        refine G_bipush (pc := 23) dX12_wide_23 ?_
        refine G_icmp_eq (tgt := 34) (pc := 25) dX12_wide_25 ?_ ?_
        · refine G_fg (lv2 := [vU]) ⟨Or.inl rfl, trivial⟩ ?_
          exact gX12_wide_J34 hst fu s
        · refine G_iload_n (x := a0) (pc := 28) dX12_wide_28 rfl ?_
          refine G_bipush (pc := 29) dX12_wide_29 ?_
          refine G_icmp_ne (tgt := 39) (pc := 31) dX12_wide_31 ?_ ?_
          · refine G_bipush (pc := 39) dX12_wide_39 ?_
            refine G_fg (lv2 := [vU]) ⟨Or.inl rfl, trivial⟩ ?_
            exact gX12_wide_J41 hst fu s 6
          · refine G_fg (lv2 := [vU]) ⟨Or.inl rfl, trivial⟩ ?_
            exact gX12_wide_J34 hst fu s
      · refine G_fg (lv2 := [vU]) ⟨Or.inl rfl, trivial⟩ ?_
        exact gX12_wide_J18 hst fu s
def fX12_signLong_J107 (fu : Nat) (s : z_M) (t0 : Int) : z_O := some (vI t0, s)
theorem gX12_signLong_J107 {l : Launch} {K : z_K} (hst : l.stackTraces = false) (fu : Nat) (s : z_M) (t0 : Int) : G l K mX12_signLong 1 21 0 0 107 [vU, vU, vU] [vI t0] s (fX12_signLong_J107 fu s t0) := by
  unfold fX12_signLong_J107
  exact G_iret (pc := 107) dX12_signLong_107
def fX12_signLong_J83 (fu : Nat) (s : z_M) : z_O := fX12_signLong_J107 fu s 12
theorem gX12_signLong_J83 {l : Launch} {K : z_K} (hst : l.stackTraces = false) (fu : Nat) (s : z_M) : G l K mX12_signLong 1 21 0 0 83 [vU, vU, vU] [] s (fX12_signLong_J83 fu s) := by
  unfold fX12_signLong_J83
  refine G_bipush (pc := 83) dX12_signLong_83 ?_
  refine G_goto (tgt := 107) (pc := 85) dX12_signLong_85 ?_
  exact gX12_signLong_J107 hst fu s 12
def fX12_signLong_J58 (fu : Nat) (s : z_M) (t0 : Int) : z_O := some (vI t0, s)
theorem gX12_signLong_J58 {l : Launch} {K : z_K} (hst : l.stackTraces = false) (fu : Nat) (s : z_M) (t0 : Int) : G l K mX12_signLong 1 21 0 0 58 [vU, vU, vU] [vI t0] s (fX12_signLong_J58 fu s t0) := by
  unfold fX12_signLong_J58
  exact G_iret (pc := 58) dX12_signLong_58
def fX12_signLong (fu : Nat) (s : z_M) (a0 : Int) (a1 : Int) : z_O := if z_ob a0 12 then z_let (z_gr a0 24) (fun x1 => if z_ix x1 100 a1 then z_let (s x1 a1) (fun x2 => if z_ob a0 12 then z_let (z_gr a0 14) (fun x3 => if z_ix x3 103 0 then z_let (z_gr x3 0) (fun x4 => if z_ix x4 100 a1 then z_let (s x4 a1) (fun x5 => if (x5 : Int) ≠ 1 then (if z_ob a0 12 then z_let (z_gr a0 14) (fun x6 => if z_ix x6 103 0 then z_let (z_gr x6 0) (fun x7 => if z_ix x7 100 a1 then z_let (s x7 a1) (fun x8 => if (x8 : Int) ≠ 2 then (if z_ob a0 12 then z_let (z_gr a0 14) (fun x9 => if z_ix x9 103 0 then z_let (z_gr x9 0) (fun x10 => if z_ix x10 100 a1 then z_let (s x10 a1) (fun x11 => if (x11 : Int) = 0 then (fX12_signLong_J83 fu s) else (if z_ob a0 12 then z_let (z_gr a0 14) (fun x12 => if z_ix x12 103 0 then z_let (z_gr x12 0) (fun x13 => if z_ix x13 100 a1 then z_let (s x13 a1) (fun x14 => if (x14 : Int) ≠ 7 then (if z_ob a0 12 then z_let (z_gr a0 14) (fun x15 => if z_ix x15 103 0 then z_let (z_gr x15 0) (fun x16 => if z_ix x16 100 a1 then z_let (s x16 a1) (fun x17 => if (x17 : Int) ≠ 6 then (fX12_signLong_J107 fu s 6) else (fX12_signLong_J107 fu s 4)) else none) else none) else none) else (fX12_signLong_J83 fu s)) else none) else none) else none)) else none) else none) else none) else (if z_ob a0 12 then z_bI (fX12_isAcross fu s a0 x2) (fun x19 s18 => if (x19 : Int) = 0 then (fX12_signLong_J58 fu s18 6) else (fX12_signLong_J58 fu s18 12)) else none)) else none) else none) else none) else (if z_ob a0 12 then z_let (z_gr a0 13) (fun x20 => if z_ix x20 103 0 then z_let (z_gr x20 0) (fun x21 => if z_ix x21 100 a1 then z_let (s x21 a1) (fun x22 => z_bI (fX12_wide fu s x22) (fun x24 s23 => some (vI x24, s23))) else none) else none) else none)) else none) else none) else none) else none) else none
theorem gX12_signLong {l : Launch} {K : z_K} (hst : l.stackTraces = false) (fu : Nat) (s : z_M) (a0 : Int) (a1 : Int) : z_D l K mX12_signLong 1 21 0 0 [vR a0, vI a1] s (fX12_signLong fu s a0 a1) := by
  refine z_D_of (lv := [vR a0, vI a1, vU]) hst z_mX12_signLong rfl ?_ (Nat.le_of_ble_eq_true rfl) rfl
  unfold fX12_signLong
  refine G_aload_n (x := a0) (pc := 0) dX12_signLong_0 rfl ?_
  refine G_getR (j := 24) (pc := 1) dX12_signLong_1 rfl z_CLX12 (by decide) z_wX12_63 (by decide) (fun x1 => ?_)
  refine G_iload_n (x := a1) (pc := 4) dX12_signLong_4 rfl ?_
  refine G_iald (pc := 5) dX12_signLong_5 (fun x2 => ?_)
  refine G_istore_n (lv' := [vR a0, vI a1, vI x2]) (pc := 6) dX12_signLong_6 rfl ?_
  refine G_aload_n (x := a0) (pc := 7) dX12_signLong_7 rfl ?_
  refine G_getR (j := 14) (pc := 8) dX12_signLong_8 rfl z_CLX12 (by decide) z_wX12_37 (by decide) (fun x3 => ?_)
  refine G_iconst (pc := 11) dX12_signLong_11 ?_
  refine G_aald103 (pc := 12) dX12_signLong_12 (fun x4 => ?_)
  refine G_iload_n (x := a1) (pc := 13) dX12_signLong_13 rfl ?_
  refine G_iald (pc := 14) dX12_signLong_14 (fun x5 => ?_)
  refine G_iconst (pc := 15) dX12_signLong_15 ?_
  refine G_icmp_ne (tgt := 31) (pc := 16) dX12_signLong_16 ?_ ?_
  · refine G_aload_n (x := a0) (pc := 31) dX12_signLong_31 rfl ?_
    refine G_getR (j := 14) (pc := 32) dX12_signLong_32 rfl z_CLX12 (by decide) z_wX12_37 (by decide) (fun x6 => ?_)
    refine G_iconst (pc := 35) dX12_signLong_35 ?_
    refine G_aald103 (pc := 36) dX12_signLong_36 (fun x7 => ?_)
    refine G_iload_n (x := a1) (pc := 37) dX12_signLong_37 rfl ?_
    refine G_iald (pc := 38) dX12_signLong_38 (fun x8 => ?_)
    refine G_iconst (pc := 39) dX12_signLong_39 ?_
    refine G_icmp_ne (tgt := 59) (pc := 40) dX12_signLong_40 ?_ ?_
    · refine G_aload_n (x := a0) (pc := 59) dX12_signLong_59 rfl ?_
      refine G_getR (j := 14) (pc := 60) dX12_signLong_60 rfl z_CLX12 (by decide) z_wX12_37 (by decide) (fun x9 => ?_)
      refine G_iconst (pc := 63) dX12_signLong_63 ?_
      refine G_aald103 (pc := 64) dX12_signLong_64 (fun x10 => ?_)
      refine G_iload_n (x := a1) (pc := 65) dX12_signLong_65 rfl ?_
      refine G_iald (pc := 66) dX12_signLong_66 (fun x11 => ?_)
      refine G_if_eq (tgt := 83) (pc := 67) dX12_signLong_67 ?_ ?_
      · refine G_fg (lv2 := [vU, vU, vU]) ⟨Or.inl rfl, Or.inl rfl, Or.inl rfl, trivial⟩ ?_
        exact gX12_signLong_J83 hst fu s
      · refine G_aload_n (x := a0) (pc := 70) dX12_signLong_70 rfl ?_
        refine G_getR (j := 14) (pc := 71) dX12_signLong_71 rfl z_CLX12 (by decide) z_wX12_37 (by decide) (fun x12 => ?_)
        refine G_iconst (pc := 74) dX12_signLong_74 ?_
        refine G_aald103 (pc := 75) dX12_signLong_75 (fun x13 => ?_)
        refine G_iload_n (x := a1) (pc := 76) dX12_signLong_76 rfl ?_
        refine G_iald (pc := 77) dX12_signLong_77 (fun x14 => ?_)
        refine G_bipush (pc := 78) dX12_signLong_78 ?_
        refine G_icmp_ne (tgt := 88) (pc := 80) dX12_signLong_80 ?_ ?_
        · refine G_aload_n (x := a0) (pc := 88) dX12_signLong_88 rfl ?_
          refine G_getR (j := 14) (pc := 89) dX12_signLong_89 rfl z_CLX12 (by decide) z_wX12_37 (by decide) (fun x15 => ?_)
          refine G_iconst (pc := 92) dX12_signLong_92 ?_
          refine G_aald103 (pc := 93) dX12_signLong_93 (fun x16 => ?_)
          refine G_iload_n (x := a1) (pc := 94) dX12_signLong_94 rfl ?_
          refine G_iald (pc := 95) dX12_signLong_95 (fun x17 => ?_)
          refine G_bipush (pc := 96) dX12_signLong_96 ?_
          refine G_icmp_ne (tgt := 105) (pc := 98) dX12_signLong_98 ?_ ?_
          · refine G_bipush (pc := 105) dX12_signLong_105 ?_
            refine G_fg (lv2 := [vU, vU, vU]) ⟨Or.inl rfl, Or.inl rfl, Or.inl rfl, trivial⟩ ?_
            exact gX12_signLong_J107 hst fu s 6
          · refine G_iconst (pc := 101) dX12_signLong_101 ?_
            refine G_goto (tgt := 107) (pc := 102) dX12_signLong_102 ?_
            refine G_fg (lv2 := [vU, vU, vU]) ⟨Or.inl rfl, Or.inl rfl, Or.inl rfl, trivial⟩ ?_
            exact gX12_signLong_J107 hst fu s 4
        · refine G_fg (lv2 := [vU, vU, vU]) ⟨Or.inl rfl, Or.inl rfl, Or.inl rfl, trivial⟩ ?_
          exact gX12_signLong_J83 hst fu s
    · refine G_aload_n (x := a0) (pc := 43) dX12_signLong_43 rfl ?_
      refine G_iload_n (x := x2) (pc := 44) dX12_signLong_44 rfl ?_
      refine G_callVI (as := [vI x2]) (st := []) (c := 12) (bc2 := 0) (bs2 := 0) (pc := 45) dX12_signLong_45 z_mX12_isAcross z_vX12_isAcross z_wX12_273 (gX12_isAcross hst fu s a0 x2) rfl rfl (by decide) rfl rfl ⟨by decide, by decide, by decide, by decide, Nat.le_of_ble_eq_true rfl⟩ rfl (fun x19 s18 => ?_)
      refine G_if_eq (tgt := 56) (pc := 48) dX12_signLong_48 ?_ ?_
      · refine G_bipush (pc := 56) dX12_signLong_56 ?_
        refine G_fg (lv2 := [vU, vU, vU]) ⟨Or.inl rfl, Or.inl rfl, Or.inl rfl, trivial⟩ ?_
        exact gX12_signLong_J58 hst fu s18 6
      · refine G_bipush (pc := 51) dX12_signLong_51 ?_
        refine G_goto (tgt := 58) (pc := 53) dX12_signLong_53 ?_
        refine G_fg (lv2 := [vU, vU, vU]) ⟨Or.inl rfl, Or.inl rfl, Or.inl rfl, trivial⟩ ?_
        exact gX12_signLong_J58 hst fu s18 12
  · refine G_aload_n (x := a0) (pc := 19) dX12_signLong_19 rfl ?_
    refine G_getR (j := 13) (pc := 20) dX12_signLong_20 rfl z_CLX12 (by decide) z_wX12_34 (by decide) (fun x20 => ?_)
    refine G_iconst (pc := 23) dX12_signLong_23 ?_
    refine G_aald103 (pc := 24) dX12_signLong_24 (fun x21 => ?_)
    refine G_iload_n (x := a1) (pc := 25) dX12_signLong_25 rfl ?_
    refine G_iald (pc := 26) dX12_signLong_26 (fun x22 => ?_)
    refine G_callSI (as := [vI x22]) (st := []) (bc2 := 0) (bs2 := 0) (pc := 27) dX12_signLong_27 z_mX12_wide z_sX12_wide z_wX12_270 (gX12_wide hst fu s x22) rfl rfl ⟨by decide, by decide, by decide, by decide, Nat.le_of_ble_eq_true rfl⟩ rfl (fun x24 s23 => ?_)
    exact G_iret (pc := 30) dX12_signLong_30
def fX12_width_L20 (fu : Nat) (a0 : Int) (a1 : Int) : Nat → z_M → Int → Int → (z_M → Int → z_O) → z_O
  | 0, _, _, _, _ => none
  | F + 1, s, a2, a3, k => if z_ob a0 12 then z_let (z_gr a0 22) (fun x5 => if z_ix x5 100 a1 then z_let (s x5 a1) (fun x6 => if z_ob a0 12 then z_let (z_gr a0 23) (fun x7 => if z_ix x7 100 a1 then z_let (s x7 a1) (fun x8 => z_let (z_w (x6 + x8)) (fun x9 => if (x9 : Int) ≤ a3 then (k s a2) else (if z_ob a0 12 then z_bI (fX12_signLong fu s a0 a3) (fun x11 s10 => z_let (z_w (a2 + x11)) (fun x12 => z_let (z_w (a3 + 1)) (fun x13 => fX12_width_L20 fu a0 a1 F s10 x12 x13 k))) else none))) else none) else none) else none) else none
theorem gX12_width_L20 {l : Launch} {K : z_K} (hst : l.stackTraces = false) (fu : Nat) (a0 : Int) (a1 : Int) (k : z_M → Int → z_O) (hk : ∀ (s : z_M) (a2 : Int), G l K mX12_width 2 43 0 0 51 [vU, vU, vI a2, vU] [] s (k s a2)) : ∀ (F : Nat) (s : z_M) (a2 : Int) (a3 : Int), G l K mX12_width 2 43 0 0 20 [vR a0, vI a1, vI a2, vI a3] [] s (fX12_width_L20 fu a0 a1 F s a2 a3 k) := by
  intro F
  induction F with
  | zero => exact fun s a2 a3 h => absurd rfl h
  | succ F ih =>
    intro s a2 a3
    rw [fX12_width_L20]
    refine G_iload_n (x := a3) (pc := 20) dX12_width_20 rfl ?_
    refine G_aload_n (x := a0) (pc := 21) dX12_width_21 rfl ?_
    refine G_getR (j := 22) (pc := 22) dX12_width_22 rfl z_CLX12 (by decide) z_wX12_57 (by decide) (fun x5 => ?_)
    refine G_iload_n (x := a1) (pc := 25) dX12_width_25 rfl ?_
    refine G_iald (pc := 26) dX12_width_26 (fun x6 => ?_)
    refine G_aload_n (x := a0) (pc := 27) dX12_width_27 rfl ?_
    refine G_getR (j := 23) (pc := 28) dX12_width_28 rfl z_CLX12 (by decide) z_wX12_60 (by decide) (fun x7 => ?_)
    refine G_iload_n (x := a1) (pc := 31) dX12_width_31 rfl ?_
    refine G_iald (pc := 32) dX12_width_32 (fun x8 => ?_)
    refine G_iadd (pc := 33) dX12_width_33 (fun x9 => ?_)
    refine G_icmp_ge (tgt := 51) (pc := 34) dX12_width_34 ?_ ?_
    · refine G_fg (lv2 := [vU, vU, vI a2, vU]) ⟨Or.inl rfl, Or.inl rfl, Or.inr rfl, Or.inl rfl, trivial⟩ ?_
      exact hk s a2
    · refine G_iload_n (x := a2) (pc := 37) dX12_width_37 rfl ?_
      refine G_aload_n (x := a0) (pc := 38) dX12_width_38 rfl ?_
      refine G_iload_n (x := a3) (pc := 39) dX12_width_39 rfl ?_
      refine G_callVI (as := [vI a3]) (st := [vI a2]) (c := 12) (bc2 := 0) (bs2 := 0) (pc := 40) dX12_width_40 z_mX12_signLong z_vX12_signLong z_wX12_276 (gX12_signLong hst fu s a0 a3) rfl rfl (by decide) rfl rfl ⟨by decide, by decide, by decide, by decide, Nat.le_of_ble_eq_true rfl⟩ rfl (fun x11 s10 => ?_)
      refine G_iadd (pc := 43) dX12_width_43 (fun x12 => ?_)
      refine G_istore_n (lv' := [vR a0, vI a1, vI x12, vI a3]) (pc := 44) dX12_width_44 rfl ?_
      refine G_iinc (x := a3) (g := fun x13 => [vR a0, vI a1, vI x12, vI x13]) (pc := 45) dX12_width_45 rfl (fun _ => rfl) (fun x13 => ?_)
      refine G_goto (tgt := 20) (pc := 48) dX12_width_48 ?_
      exact ih s10 x12 x13
def fX12_width (fu : Nat) (s : z_M) (a0 : Int) (a1 : Int) : z_O := if z_ob a0 12 then z_bI (fX12_isAcross fu s a0 a1) (fun x2 s1 => if (x2 : Int) = 0 then (if z_ob a0 12 then z_let (z_gr a0 22) (fun x3 => if z_ix x3 100 a1 then z_let (s1 x3 a1) (fun x4 => fX12_width_L20 fu a0 a1 fu s1 0 x4 (fun s14 x15 => some (vI x15, s14))) else none) else none) else (some (vI 12, s1))) else none
theorem gX12_width {l : Launch} {K : z_K} (hst : l.stackTraces = false) (fu : Nat) (s : z_M) (a0 : Int) (a1 : Int) : z_D l K mX12_width 2 43 0 0 [vR a0, vI a1] s (fX12_width fu s a0 a1) := by
  refine z_D_of (lv := [vR a0, vI a1, vU, vU]) hst z_mX12_width rfl ?_ (Nat.le_of_ble_eq_true rfl) rfl
  unfold fX12_width
  refine G_aload_n (x := a0) (pc := 0) dX12_width_0 rfl ?_
  refine G_iload_n (x := a1) (pc := 1) dX12_width_1 rfl ?_
  refine G_callVI (as := [vI a1]) (st := []) (c := 12) (bc2 := 0) (bs2 := 0) (pc := 2) dX12_width_2 z_mX12_isAcross z_vX12_isAcross z_wX12_273 (gX12_isAcross hst fu s a0 a1) rfl rfl (by decide) rfl rfl ⟨by decide, by decide, by decide, by decide, Nat.le_of_ble_eq_true rfl⟩ rfl (fun x2 s1 => ?_)
  refine G_if_eq (tgt := 11) (pc := 5) dX12_width_5 ?_ ?_
  · refine G_iconst (pc := 11) dX12_width_11 ?_
    refine G_istore_n (lv' := [vR a0, vI a1, vI 0, vU]) (pc := 12) dX12_width_12 rfl ?_
    refine G_aload_n (x := a0) (pc := 13) dX12_width_13 rfl ?_
    refine G_getR (j := 22) (pc := 14) dX12_width_14 rfl z_CLX12 (by decide) z_wX12_57 (by decide) (fun x3 => ?_)
    refine G_iload_n (x := a1) (pc := 17) dX12_width_17 rfl ?_
    refine G_iald (pc := 18) dX12_width_18 (fun x4 => ?_)
    refine G_istore_n (lv' := [vR a0, vI a1, vI 0, vI x4]) (pc := 19) dX12_width_19 rfl ?_
    refine gX12_width_L20 hst fu a0 a1 _ (fun s14 x15 => ?_) fu s1 0 x4
    refine G_iload_n (x := x15) (pc := 51) dX12_width_51 rfl ?_
    exact G_iret (pc := 52) dX12_width_52
  · refine G_bipush (pc := 8) dX12_width_8 ?_
    exact G_iret (pc := 10) dX12_width_10
def fX12_ties_L5 (fu : Nat) (a0 : Int) (a1 : Int) (a2 : Int) : Nat → z_M → Int → Int → (z_M → Int → z_O) → z_O
  | 0, _, _, _, _ => none
  | F + 1, s, a3, a4, k => if (a2 : Int) < a4 then (k s a3) else (if z_ob a0 12 then z_bI (fX12_width fu s a0 a4) (fun x2 s1 => z_let (z_w (a3 + x2)) (fun x3 => z_let (z_w (a4 + 1)) (fun x4 => fX12_ties_L5 fu a0 a1 a2 F s1 x3 x4 k))) else none)
theorem gX12_ties_L5 {l : Launch} {K : z_K} (hst : l.stackTraces = false) (fu : Nat) (a0 : Int) (a1 : Int) (a2 : Int) (k : z_M → Int → z_O) (hk : ∀ (s : z_M) (a3 : Int), G l K mX12_ties 3 66 0 0 26 [vR a0, vI a1, vI a2, vI a3, vU] [] s (k s a3)) : ∀ (F : Nat) (s : z_M) (a3 : Int) (a4 : Int), G l K mX12_ties 3 66 0 0 5 [vR a0, vI a1, vI a2, vI a3, vI a4] [] s (fX12_ties_L5 fu a0 a1 a2 F s a3 a4 k) := by
  intro F
  induction F with
  | zero => exact fun s a3 a4 h => absurd rfl h
  | succ F ih =>
    intro s a3 a4
    rw [fX12_ties_L5]
    refine G_iload (x := a4) (pc := 5) dX12_ties_5 rfl ?_
    refine G_iload_n (x := a2) (pc := 7) dX12_ties_7 rfl ?_
    refine G_icmp_gt (tgt := 26) (pc := 8) dX12_ties_8 ?_ ?_
    · refine G_fg (lv2 := [vR a0, vI a1, vI a2, vI a3, vU]) ⟨Or.inr rfl, Or.inr rfl, Or.inr rfl, Or.inr rfl, Or.inl rfl, trivial⟩ ?_
      exact hk s a3
    · refine G_iload_n (x := a3) (pc := 11) dX12_ties_11 rfl ?_
      refine G_aload_n (x := a0) (pc := 12) dX12_ties_12 rfl ?_
      refine G_iload (x := a4) (pc := 13) dX12_ties_13 rfl ?_
      refine G_callVI (as := [vI a4]) (st := [vI a3]) (c := 12) (bc2 := 0) (bs2 := 0) (pc := 15) dX12_ties_15 z_mX12_width z_vX12_width z_wX12_279 (gX12_width hst fu s a0 a4) rfl rfl (by decide) rfl rfl ⟨by decide, by decide, by decide, by decide, Nat.le_of_ble_eq_true rfl⟩ rfl (fun x2 s1 => ?_)
      refine G_iadd (pc := 18) dX12_ties_18 (fun x3 => ?_)
      refine G_istore_n (lv' := [vR a0, vI a1, vI a2, vI x3, vI a4]) (pc := 19) dX12_ties_19 rfl ?_
      refine G_iinc (x := a4) (g := fun x4 => [vR a0, vI a1, vI a2, vI x3, vI x4]) (pc := 20) dX12_ties_20 rfl (fun _ => rfl) (fun x4 => ?_)
      refine G_goto (tgt := 5) (pc := 23) dX12_ties_23 ?_
      exact ih s1 x3 x4
def fX12_ties_J47 (fu : Nat) (s : z_M) : z_O := some (vN, s)
theorem gX12_ties_J47 {l : Launch} {K : z_K} (hst : l.stackTraces = false) (fu : Nat) (s : z_M) : G l K mX12_ties 3 66 0 0 47 [vU, vU, vU, vU, vU] [] s (fX12_ties_J47 fu s) := by
  unfold fX12_ties_J47
  exact G_vret (pc := 47) dX12_ties_47
def fX12_ties_L61 (fu : Nat) (a0 : Int) (a2 : Int) : Nat → z_M → Int → (z_M → z_O) → z_O
  | 0, _, _, _ => none
  | F + 1, s, a4, k => if (a2 : Int) ≤ a4 then (k s) else (if z_ob a0 12 then z_let (z_gr a0 42) (fun x14 => if z_ix x14 102 a4 ∧ z_bl 1 then z_let (z_up s x14 a4 1) (fun s15 => z_let (z_w (a4 + 1)) (fun x16 => fX12_ties_L61 fu a0 a2 F s15 x16 k)) else none) else none)
theorem gX12_ties_L61 {l : Launch} {K : z_K} (hst : l.stackTraces = false) (fu : Nat) (a0 : Int) (a2 : Int) (k : z_M → z_O) (hk : ∀ (s : z_M), G l K mX12_ties 3 66 0 0 81 [vU, vU, vU, vU, vU] [] s (k s)) : ∀ (F : Nat) (s : z_M) (a4 : Int), G l K mX12_ties 3 66 0 0 61 [vR a0, vU, vI a2, vU, vI a4] [] s (fX12_ties_L61 fu a0 a2 F s a4 k) := by
  intro F
  induction F with
  | zero => exact fun s a4 h => absurd rfl h
  | succ F ih =>
    intro s a4
    rw [fX12_ties_L61]
    refine G_iload (x := a4) (pc := 61) dX12_ties_61 rfl ?_
    refine G_iload_n (x := a2) (pc := 63) dX12_ties_63 rfl ?_
    refine G_icmp_ge (tgt := 81) (pc := 64) dX12_ties_64 ?_ ?_
    · refine G_fg (lv2 := [vU, vU, vU, vU, vU]) ⟨Or.inl rfl, Or.inl rfl, Or.inl rfl, Or.inl rfl, Or.inl rfl, trivial⟩ ?_
      exact hk s
    · refine G_aload_n (x := a0) (pc := 67) dX12_ties_67 rfl ?_
      refine G_getR (j := 42) (pc := 68) dX12_ties_68 rfl z_CLX12 (by decide) z_wX12_105 (by decide) (fun x14 => ?_)
      refine G_iload (x := a4) (pc := 71) dX12_ties_71 rfl ?_
      refine G_iconst (pc := 73) dX12_ties_73 ?_
      refine G_zast (pc := 74) dX12_ties_74 (fun s15 => ?_)
      refine G_iinc (x := a4) (g := fun x16 => [vR a0, vU, vI a2, vU, vI x16]) (pc := 75) dX12_ties_75 rfl (fun _ => rfl) (fun x16 => ?_)
      refine G_goto (tgt := 61) (pc := 78) dX12_ties_78 ?_
      exact ih s15 x16
def fX12_ties (fu : Nat) (s : z_M) (a0 : Int) (a1 : Int) (a2 : Int) : z_O := fX12_ties_L5 fu a0 a1 a2 fu s 0 a1 (fun s5 x6 => if z_ob a0 12 then z_let (z_gr a0 9) (fun x7 => if z_ix x7 100 7 then z_let (s5 x7 7) (fun x8 => if (x8 : Int) = 0 then (fX12_ties_J47 fu s5) else (if z_ob a0 12 then z_let (z_gr a0 9) (fun x9 => if z_ix x9 100 7 then z_let (s5 x9 7) (fun x10 => if (x6 : Int) ≤ x10 then (if z_ob a0 12 then z_let (s5 a0 39) (fun x11 => z_let (z_w (x11 + 1)) (fun x12 => if z_ob a0 12 then z_let (z_up s5 a0 39 x12) (fun s13 => fX12_ties_L61 fu a0 a2 fu s13 a1 (fun s17 => some (vN, s17))) else none)) else none) else (fX12_ties_J47 fu s5)) else none) else none)) else none) else none)
theorem gX12_ties {l : Launch} {K : z_K} (hst : l.stackTraces = false) (fu : Nat) (s : z_M) (a0 : Int) (a1 : Int) (a2 : Int) : z_D l K mX12_ties 3 66 0 0 [vR a0, vI a1, vI a2] s (fX12_ties fu s a0 a1 a2) := by
  refine z_D_of (lv := [vR a0, vI a1, vI a2, vU, vU]) hst z_mX12_ties rfl ?_ (Nat.le_of_ble_eq_true rfl) rfl
  unfold fX12_ties
  refine G_iconst (pc := 0) dX12_ties_0 ?_
  refine G_istore_n (lv' := [vR a0, vI a1, vI a2, vI 0, vU]) (pc := 1) dX12_ties_1 rfl ?_
  refine G_iload_n (x := a1) (pc := 2) dX12_ties_2 rfl ?_
  refine G_istore (lv' := [vR a0, vI a1, vI a2, vI 0, vI a1]) (pc := 3) dX12_ties_3 rfl ?_
  refine gX12_ties_L5 hst fu a0 a1 a2 _ (fun s5 x6 => ?_) fu s 0 a1
  refine G_aload_n (x := a0) (pc := 26) dX12_ties_26 rfl ?_
  refine G_getR (j := 9) (pc := 27) dX12_ties_27 rfl z_CLX12 (by decide) z_wX12_20 (by decide) (fun x7 => ?_)
  refine G_bipush (pc := 30) dX12_ties_30 ?_
  refine G_iald (pc := 32) dX12_ties_32 (fun x8 => ?_)
  refine G_if_eq (tgt := 47) (pc := 33) dX12_ties_33 ?_ ?_
  · refine G_fg (lv2 := [vU, vU, vU, vU, vU]) ⟨Or.inl rfl, Or.inl rfl, Or.inl rfl, Or.inl rfl, Or.inl rfl, trivial⟩ ?_
    exact gX12_ties_J47 hst fu s5
  · refine G_iload_n (x := x6) (pc := 36) dX12_ties_36 rfl ?_
    refine G_aload_n (x := a0) (pc := 37) dX12_ties_37 rfl ?_
    refine G_getR (j := 9) (pc := 38) dX12_ties_38 rfl z_CLX12 (by decide) z_wX12_20 (by decide) (fun x9 => ?_)
    refine G_bipush (pc := 41) dX12_ties_41 ?_
    refine G_iald (pc := 43) dX12_ties_43 (fun x10 => ?_)
    refine G_icmp_le (tgt := 48) (pc := 44) dX12_ties_44 ?_ ?_
    · refine G_aload_n (x := a0) (pc := 48) dX12_ties_48 rfl ?_
      refine G_dupR (pc := 49) dX12_ties_49 ?_
      refine G_getI (j := 39) (pc := 50) dX12_ties_50 rfl z_CLX12 (by decide) z_wX12_314 (by decide) (fun x11 => ?_)
      refine G_iconst (pc := 53) dX12_ties_53 ?_
      refine G_iadd (pc := 54) dX12_ties_54 (fun x12 => ?_)
      refine G_putI (j := 39) (pc := 55) dX12_ties_55 rfl z_CLX12 (by decide) z_wX12_314 rfl (by decide) (by decide) (fun s13 => ?_)
      refine G_iload_n (x := a1) (pc := 58) dX12_ties_58 rfl ?_
      refine G_istore (lv' := [vR a0, vI a1, vI a2, vI x6, vI a1]) (pc := 59) dX12_ties_59 rfl ?_
      refine G_fg (lv2 := [vR a0, vU, vI a2, vU, vI a1]) ⟨Or.inr rfl, Or.inl rfl, Or.inr rfl, Or.inl rfl, Or.inr rfl, trivial⟩ ?_
      refine gX12_ties_L61 hst fu a0 a2 _ (fun s17 => ?_) fu s13 a1
      exact G_vret (pc := 81) dX12_ties_81
    · refine G_fg (lv2 := [vU, vU, vU, vU, vU]) ⟨Or.inl rfl, Or.inl rfl, Or.inl rfl, Or.inl rfl, Or.inl rfl, trivial⟩ ?_
      exact gX12_ties_J47 hst fu s5
def fX12_laysPairs_J121 (fu : Nat) (s : z_M) (a0 : Int) (a1 : Int) (a2 : Int) (r : z_M → Int → Int → z_O) (k : z_M → z_O) : z_O := z_let (z_w (a2 + 1)) (fun x12 => r s a1 x12)
theorem gX12_laysPairs_J121 {l : Launch} {K : z_K} (hst : l.stackTraces = false) (fu : Nat) (s : z_M) (a0 : Int) (a1 : Int) (a2 : Int) (r : z_M → Int → Int → z_O) (k : z_M → z_O) (hr : ∀ (s : z_M) (a1 : Int) (a2 : Int), G l K mX12_laysPairs 4 90 0 0 14 [vR a0, vI a1, vI a2] [] s (r s a1 a2)) (hk : ∀ (s : z_M), G l K mX12_laysPairs 4 90 0 0 127 [vU, vU, vU] [] s (k s)) : G l K mX12_laysPairs 4 90 0 0 121 [vR a0, vI a1, vI a2] [] s (fX12_laysPairs_J121 fu s a0 a1 a2 r k) := by
  unfold fX12_laysPairs_J121
  refine G_iinc (x := a2) (g := fun x12 => [vR a0, vI a1, vI x12]) (pc := 121) dX12_laysPairs_121 rfl (fun _ => rfl) (fun x12 => ?_)
  refine G_goto (tgt := 14) (pc := 124) dX12_laysPairs_124 ?_
  exact hr s a1 x12
def fX12_laysPairs_J56 (fu : Nat) (s : z_M) (a0 : Int) (a1 : Int) (a2 : Int) (r : z_M → Int → Int → z_O) (k : z_M → z_O) : z_O := if z_ob a0 12 then z_let (z_gr a0 21) (fun x10 => if z_ix x10 100 a2 then z_let (s x10 a2) (fun x11 => if (x11 : Int) ≠ 5 then (fX12_laysPairs_J121 fu s a0 a1 a2 (fun w v1 v2 => r w v1 v2) k) else (if (a1 : Int) ≠ 0 then (z_let (z_w (a1 + (-1))) (fun x13 => if z_ob a0 12 then z_let (z_gr a0 40) (fun x14 => if z_ob a0 12 then z_let (z_gr a0 41) (fun x15 => if z_ix x15 100 x13 then z_let (s x15 x13) (fun x16 => if z_ix x14 100 a2 then z_let (z_up s x14 a2 x16) (fun s17 => if z_ob a0 12 then z_let (z_gr a0 40) (fun x18 => if z_ob a0 12 then z_let (z_gr a0 41) (fun x19 => if z_ix x19 100 x13 then z_let (s17 x19 x13) (fun x20 => if z_ix x18 100 x20 then z_let (z_up s17 x18 x20 a2) (fun s21 => if z_ob a0 12 then z_let (s21 a0 38) (fun x22 => z_let (z_w (x22 + 1)) (fun x23 => if z_ob a0 12 then z_let (z_up s21 a0 38 x23) (fun s24 => if z_ob a0 12 then z_let (z_gr a0 41) (fun x25 => if z_ix x25 100 x13 then z_let (s24 x25 x13) (fun x26 => if z_ob a0 12 then z_bN (fX12_ties fu s24 a0 x26 a2) (fun s27 => fX12_laysPairs_J121 fu s27 a0 x13 a2 (fun w v1 v2 => r w v1 v2) k) else none) else none) else none) else none)) else none) else none) else none) else none) else none) else none) else none) else none) else none)) else (fX12_laysPairs_J121 fu s a0 a1 a2 (fun w v1 v2 => r w v1 v2) k))) else none) else none
theorem gX12_laysPairs_J56 {l : Launch} {K : z_K} (hst : l.stackTraces = false) (fu : Nat) (s : z_M) (a0 : Int) (a1 : Int) (a2 : Int) (r : z_M → Int → Int → z_O) (k : z_M → z_O) (hr : ∀ (s : z_M) (a1 : Int) (a2 : Int), G l K mX12_laysPairs 4 90 0 0 14 [vR a0, vI a1, vI a2] [] s (r s a1 a2)) (hk : ∀ (s : z_M), G l K mX12_laysPairs 4 90 0 0 127 [vU, vU, vU] [] s (k s)) : G l K mX12_laysPairs 4 90 0 0 56 [vR a0, vI a1, vI a2] [] s (fX12_laysPairs_J56 fu s a0 a1 a2 r k) := by
  unfold fX12_laysPairs_J56
  refine G_aload_n (x := a0) (pc := 56) dX12_laysPairs_56 rfl ?_
  refine G_getR (j := 21) (pc := 57) dX12_laysPairs_57 rfl z_CLX12 (by decide) z_wX12_54 (by decide) (fun x10 => ?_)
  refine G_iload_n (x := a2) (pc := 60) dX12_laysPairs_60 rfl ?_
  refine G_iald (pc := 61) dX12_laysPairs_61 (fun x11 => ?_)
  refine G_iconst (pc := 62) dX12_laysPairs_62 ?_
  refine G_icmp_ne (tgt := 121) (pc := 63) dX12_laysPairs_63 ?_ ?_
  · exact gX12_laysPairs_J121 hst fu s a0 a1 a2 _ _ (fun w v1 v2 => hr w v1 v2) hk
  · refine G_iload_n (x := a1) (pc := 66) dX12_laysPairs_66 rfl ?_
    refine G_if_ne (tgt := 73) (pc := 67) dX12_laysPairs_67 ?_ ?_
    · refine G_iinc (x := a1) (g := fun x13 => [vR a0, vI x13, vI a2]) (pc := 73) dX12_laysPairs_73 rfl (fun _ => rfl) (fun x13 => ?_)
      refine G_aload_n (x := a0) (pc := 76) dX12_laysPairs_76 rfl ?_
      refine G_getR (j := 40) (pc := 77) dX12_laysPairs_77 rfl z_CLX12 (by decide) z_wX12_99 (by decide) (fun x14 => ?_)
      refine G_iload_n (x := a2) (pc := 80) dX12_laysPairs_80 rfl ?_
      refine G_aload_n (x := a0) (pc := 81) dX12_laysPairs_81 rfl ?_
      refine G_getR (j := 41) (pc := 82) dX12_laysPairs_82 rfl z_CLX12 (by decide) z_wX12_102 (by decide) (fun x15 => ?_)
      refine G_iload_n (x := x13) (pc := 85) dX12_laysPairs_85 rfl ?_
      refine G_iald (pc := 86) dX12_laysPairs_86 (fun x16 => ?_)
      refine G_iast (pc := 87) dX12_laysPairs_87 (fun s17 => ?_)
      refine G_aload_n (x := a0) (pc := 88) dX12_laysPairs_88 rfl ?_
      refine G_getR (j := 40) (pc := 89) dX12_laysPairs_89 rfl z_CLX12 (by decide) z_wX12_99 (by decide) (fun x18 => ?_)
      refine G_aload_n (x := a0) (pc := 92) dX12_laysPairs_92 rfl ?_
      refine G_getR (j := 41) (pc := 93) dX12_laysPairs_93 rfl z_CLX12 (by decide) z_wX12_102 (by decide) (fun x19 => ?_)
      refine G_iload_n (x := x13) (pc := 96) dX12_laysPairs_96 rfl ?_
      refine G_iald (pc := 97) dX12_laysPairs_97 (fun x20 => ?_)
      refine G_iload_n (x := a2) (pc := 98) dX12_laysPairs_98 rfl ?_
      refine G_iast (pc := 99) dX12_laysPairs_99 (fun s21 => ?_)
      refine G_aload_n (x := a0) (pc := 100) dX12_laysPairs_100 rfl ?_
      refine G_dupR (pc := 101) dX12_laysPairs_101 ?_
      refine G_getI (j := 38) (pc := 102) dX12_laysPairs_102 rfl z_CLX12 (by decide) z_wX12_311 (by decide) (fun x22 => ?_)
      refine G_iconst (pc := 105) dX12_laysPairs_105 ?_
      refine G_iadd (pc := 106) dX12_laysPairs_106 (fun x23 => ?_)
      refine G_putI (j := 38) (pc := 107) dX12_laysPairs_107 rfl z_CLX12 (by decide) z_wX12_311 rfl (by decide) (by decide) (fun s24 => ?_)
      refine G_aload_n (x := a0) (pc := 110) dX12_laysPairs_110 rfl ?_
      refine G_aload_n (x := a0) (pc := 111) dX12_laysPairs_111 rfl ?_
      refine G_getR (j := 41) (pc := 112) dX12_laysPairs_112 rfl z_CLX12 (by decide) z_wX12_102 (by decide) (fun x25 => ?_)
      refine G_iload_n (x := x13) (pc := 115) dX12_laysPairs_115 rfl ?_
      refine G_iald (pc := 116) dX12_laysPairs_116 (fun x26 => ?_)
      refine G_iload_n (x := a2) (pc := 117) dX12_laysPairs_117 rfl ?_
      refine G_callVN (as := [vI x26, vI a2]) (st := []) (c := 12) (bc2 := 0) (bs2 := 0) (pc := 118) dX12_laysPairs_118 z_mX12_ties z_vX12_ties z_wX12_317 (gX12_ties hst fu s24 a0 x26 a2) rfl rfl (by decide) rfl rfl ⟨by decide, by decide, by decide, by decide, Nat.le_of_ble_eq_true rfl⟩ rfl (fun s27 => ?_)
      exact gX12_laysPairs_J121 hst fu s27 a0 x13 a2 _ _ (fun w v1 v2 => hr w v1 v2) hk
    · refine G_goto (tgt := 121) (pc := 70) dX12_laysPairs_70 ?_
      exact gX12_laysPairs_J121 hst fu s a0 a1 a2 _ _ (fun w v1 v2 => hr w v1 v2) hk
def fX12_laysPairs_L14 (fu : Nat) (a0 : Int) : Nat → z_M → Int → Int → (z_M → z_O) → z_O
  | 0, _, _, _, _ => none
  | F + 1, s, a1, a2, k => if z_ob a0 12 then z_let (s a0 20) (fun x3 => if (x3 : Int) ≤ a2 then (k s) else (if z_ob a0 12 then z_let (z_gr a0 40) (fun x4 => if z_ix x4 100 a2 then z_let (z_up s x4 a2 (-1)) (fun s5 => if z_ob a0 12 then z_let (z_gr a0 42) (fun x6 => if z_ix x6 102 a2 ∧ z_bl 0 then z_let (z_up s5 x6 a2 0) (fun s7 => if z_ob a0 12 then z_let (z_gr a0 21) (fun x8 => if z_ix x8 100 a2 then z_let (s7 x8 a2) (fun x9 => if (x9 : Int) ≠ 4 then (fX12_laysPairs_J56 fu s7 a0 a1 a2 (fun w v1 v2 => fX12_laysPairs_L14 fu a0 F w v1 v2 k) k) else (if z_ob a0 12 then z_let (z_gr a0 41) (fun x28 => if z_ix x28 100 a1 then z_let (z_up s7 x28 a1 a2) (fun s29 => z_let (z_w (a1 + 1)) (fun x30 => fX12_laysPairs_J56 fu s29 a0 x30 a2 (fun w v1 v2 => fX12_laysPairs_L14 fu a0 F w v1 v2 k) k)) else none) else none)) else none) else none) else none) else none) else none) else none)) else none
theorem gX12_laysPairs_L14 {l : Launch} {K : z_K} (hst : l.stackTraces = false) (fu : Nat) (a0 : Int) (k : z_M → z_O) (hk : ∀ (s : z_M), G l K mX12_laysPairs 4 90 0 0 127 [vU, vU, vU] [] s (k s)) : ∀ (F : Nat) (s : z_M) (a1 : Int) (a2 : Int), G l K mX12_laysPairs 4 90 0 0 14 [vR a0, vI a1, vI a2] [] s (fX12_laysPairs_L14 fu a0 F s a1 a2 k) := by
  intro F
  induction F with
  | zero => exact fun s a1 a2 h => absurd rfl h
  | succ F ih =>
    intro s a1 a2
    rw [fX12_laysPairs_L14]
    refine G_iload_n (x := a2) (pc := 14) dX12_laysPairs_14 rfl ?_
    refine G_aload_n (x := a0) (pc := 15) dX12_laysPairs_15 rfl ?_
    refine G_getI (j := 20) (pc := 16) dX12_laysPairs_16 rfl z_CLX12 (by decide) z_wX12_242 (by decide) (fun x3 => ?_)
    refine G_icmp_ge (tgt := 127) (pc := 19) dX12_laysPairs_19 ?_ ?_
    · refine G_fg (lv2 := [vU, vU, vU]) ⟨Or.inl rfl, Or.inl rfl, Or.inl rfl, trivial⟩ ?_
      exact hk s
    · refine G_aload_n (x := a0) (pc := 22) dX12_laysPairs_22 rfl ?_
      refine G_getR (j := 40) (pc := 23) dX12_laysPairs_23 rfl z_CLX12 (by decide) z_wX12_99 (by decide) (fun x4 => ?_)
      refine G_iload_n (x := a2) (pc := 26) dX12_laysPairs_26 rfl ?_
      refine G_iconst (pc := 27) dX12_laysPairs_27 ?_
      refine G_iast (pc := 28) dX12_laysPairs_28 (fun s5 => ?_)
      refine G_aload_n (x := a0) (pc := 29) dX12_laysPairs_29 rfl ?_
      refine G_getR (j := 42) (pc := 30) dX12_laysPairs_30 rfl z_CLX12 (by decide) z_wX12_105 (by decide) (fun x6 => ?_)
      refine G_iload_n (x := a2) (pc := 33) dX12_laysPairs_33 rfl ?_
      refine G_iconst (pc := 34) dX12_laysPairs_34 ?_
      refine G_zast (pc := 35) dX12_laysPairs_35 (fun s7 => ?_)
      refine G_aload_n (x := a0) (pc := 36) dX12_laysPairs_36 rfl ?_
      refine G_getR (j := 21) (pc := 37) dX12_laysPairs_37 rfl z_CLX12 (by decide) z_wX12_54 (by decide) (fun x8 => ?_)
      refine G_iload_n (x := a2) (pc := 40) dX12_laysPairs_40 rfl ?_
      refine G_iald (pc := 41) dX12_laysPairs_41 (fun x9 => ?_)
      refine G_iconst (pc := 42) dX12_laysPairs_42 ?_
      refine G_icmp_ne (tgt := 56) (pc := 43) dX12_laysPairs_43 ?_ ?_
      · exact gX12_laysPairs_J56 hst fu s7 a0 a1 a2 _ _ (fun w v1 v2 => ih w v1 v2) hk
      · refine G_aload_n (x := a0) (pc := 46) dX12_laysPairs_46 rfl ?_
        refine G_getR (j := 41) (pc := 47) dX12_laysPairs_47 rfl z_CLX12 (by decide) z_wX12_102 (by decide) (fun x28 => ?_)
        refine G_iload_n (x := a1) (pc := 50) dX12_laysPairs_50 rfl ?_
        refine G_iload_n (x := a2) (pc := 51) dX12_laysPairs_51 rfl ?_
        refine G_iast (pc := 52) dX12_laysPairs_52 (fun s29 => ?_)
        refine G_iinc (x := a1) (g := fun x30 => [vR a0, vI x30, vI a2]) (pc := 53) dX12_laysPairs_53 rfl (fun _ => rfl) (fun x30 => ?_)
        exact gX12_laysPairs_J56 hst fu s29 a0 x30 a2 _ _ (fun w v1 v2 => ih w v1 v2) hk
def fX12_laysPairs (fu : Nat) (s : z_M) (a0 : Int) : z_O := if z_ob a0 12 then z_let (z_up s a0 38 0) (fun s1 => if z_ob a0 12 then z_let (z_up s1 a0 39 0) (fun s2 => fX12_laysPairs_L14 fu a0 fu s2 0 0 (fun s31 => some (vN, s31))) else none) else none
theorem gX12_laysPairs {l : Launch} {K : z_K} (hst : l.stackTraces = false) (fu : Nat) (s : z_M) (a0 : Int) : z_D l K mX12_laysPairs 4 90 0 0 [vR a0] s (fX12_laysPairs fu s a0) := by
  refine z_D_of (lv := [vR a0, vU, vU]) hst z_mX12_laysPairs rfl ?_ (Nat.le_of_ble_eq_true rfl) rfl
  unfold fX12_laysPairs
  refine G_iconst (pc := 0) dX12_laysPairs_0 ?_
  refine G_istore_n (lv' := [vR a0, vI 0, vU]) (pc := 1) dX12_laysPairs_1 rfl ?_
  refine G_aload_n (x := a0) (pc := 2) dX12_laysPairs_2 rfl ?_
  refine G_iconst (pc := 3) dX12_laysPairs_3 ?_
  refine G_putI (j := 38) (pc := 4) dX12_laysPairs_4 rfl z_CLX12 (by decide) z_wX12_311 rfl (by decide) (by decide) (fun s1 => ?_)
  refine G_aload_n (x := a0) (pc := 7) dX12_laysPairs_7 rfl ?_
  refine G_iconst (pc := 8) dX12_laysPairs_8 ?_
  refine G_putI (j := 39) (pc := 9) dX12_laysPairs_9 rfl z_CLX12 (by decide) z_wX12_314 rfl (by decide) (by decide) (fun s2 => ?_)
  refine G_iconst (pc := 12) dX12_laysPairs_12 ?_
  refine G_istore_n (lv' := [vR a0, vI 0, vI 0]) (pc := 13) dX12_laysPairs_13 rfl ?_
  refine gX12_laysPairs_L14 hst fu a0 _ (fun s31 => ?_) fu s2 0 0
  exact G_vret (pc := 127) dX12_laysPairs_127
def fX12_freshens_L20 (fu : Nat) (a0 : Int) (a1 : Int) : Nat → z_M → Int → (z_M → z_O) → z_O
  | 0, _, _, _ => none
  | F + 1, s, a2, k => if z_ob a0 12 then z_let (s a0 20) (fun x3 => if (x3 : Int) ≤ a2 then (k s) else (if z_ob a0 12 then z_let (z_gr a0 37) (fun x4 => if z_ix x4 103 a1 then z_let (z_gr x4 a1) (fun x5 => if z_ix x5 100 a2 then z_let (z_up s x5 a2 (-1)) (fun s6 => z_let (z_w (a2 + 1)) (fun x7 => fX12_freshens_L20 fu a0 a1 F s6 x7 k)) else none) else none) else none)) else none
theorem gX12_freshens_L20 {l : Launch} {K : z_K} (hst : l.stackTraces = false) (fu : Nat) (a0 : Int) (a1 : Int) (k : z_M → z_O) (hk : ∀ (s : z_M), G l K mX12_freshens 5 112 0 0 43 [vR a0, vI a1, vU] [] s (k s)) : ∀ (F : Nat) (s : z_M) (a2 : Int), G l K mX12_freshens 5 112 0 0 20 [vR a0, vI a1, vI a2] [] s (fX12_freshens_L20 fu a0 a1 F s a2 k) := by
  intro F
  induction F with
  | zero => exact fun s a2 h => absurd rfl h
  | succ F ih =>
    intro s a2
    rw [fX12_freshens_L20]
    refine G_iload_n (x := a2) (pc := 20) dX12_freshens_20 rfl ?_
    refine G_aload_n (x := a0) (pc := 21) dX12_freshens_21 rfl ?_
    refine G_getI (j := 20) (pc := 22) dX12_freshens_22 rfl z_CLX12 (by decide) z_wX12_242 (by decide) (fun x3 => ?_)
    refine G_icmp_ge (tgt := 43) (pc := 25) dX12_freshens_25 ?_ ?_
    · refine G_fg (lv2 := [vR a0, vI a1, vU]) ⟨Or.inr rfl, Or.inr rfl, Or.inl rfl, trivial⟩ ?_
      exact hk s
    · refine G_aload_n (x := a0) (pc := 28) dX12_freshens_28 rfl ?_
      refine G_getR (j := 37) (pc := 29) dX12_freshens_29 rfl z_CLX12 (by decide) z_wX12_96 (by decide) (fun x4 => ?_)
      refine G_iload_n (x := a1) (pc := 32) dX12_freshens_32 rfl ?_
      refine G_aald103 (pc := 33) dX12_freshens_33 (fun x5 => ?_)
      refine G_iload_n (x := a2) (pc := 34) dX12_freshens_34 rfl ?_
      refine G_iconst (pc := 35) dX12_freshens_35 ?_
      refine G_iast (pc := 36) dX12_freshens_36 (fun s6 => ?_)
      refine G_iinc (x := a2) (g := fun x7 => [vR a0, vI a1, vI x7]) (pc := 37) dX12_freshens_37 rfl (fun _ => rfl) (fun x7 => ?_)
      refine G_goto (tgt := 20) (pc := 40) dX12_freshens_40 ?_
      exact ih s6 x7
def fX12_freshens_L10 (fu : Nat) (a0 : Int) : Nat → z_M → Int → (z_M → z_O) → z_O
  | 0, _, _, _ => none
  | F + 1, s, a1, k => if z_ob a0 12 then z_let (s a0 20) (fun x2 => if (x2 : Int) ≤ a1 then (k s) else (fX12_freshens_L20 fu a0 a1 fu s a1 (fun s8 => z_let (z_w (a1 + 1)) (fun x9 => fX12_freshens_L10 fu a0 F s8 x9 k)))) else none
theorem gX12_freshens_L10 {l : Launch} {K : z_K} (hst : l.stackTraces = false) (fu : Nat) (a0 : Int) (k : z_M → z_O) (hk : ∀ (s : z_M), G l K mX12_freshens 5 112 0 0 49 [vR a0, vU, vU] [] s (k s)) : ∀ (F : Nat) (s : z_M) (a1 : Int), G l K mX12_freshens 5 112 0 0 10 [vR a0, vI a1, vU] [] s (fX12_freshens_L10 fu a0 F s a1 k) := by
  intro F
  induction F with
  | zero => exact fun s a1 h => absurd rfl h
  | succ F ih =>
    intro s a1
    rw [fX12_freshens_L10]
    refine G_iload_n (x := a1) (pc := 10) dX12_freshens_10 rfl ?_
    refine G_aload_n (x := a0) (pc := 11) dX12_freshens_11 rfl ?_
    refine G_getI (j := 20) (pc := 12) dX12_freshens_12 rfl z_CLX12 (by decide) z_wX12_242 (by decide) (fun x2 => ?_)
    refine G_icmp_ge (tgt := 49) (pc := 15) dX12_freshens_15 ?_ ?_
    · refine G_fg (lv2 := [vR a0, vU, vU]) ⟨Or.inr rfl, Or.inl rfl, Or.inl rfl, trivial⟩ ?_
      exact hk s
    · refine G_iload_n (x := a1) (pc := 18) dX12_freshens_18 rfl ?_
      refine G_istore_n (lv' := [vR a0, vI a1, vI a1]) (pc := 19) dX12_freshens_19 rfl ?_
      refine gX12_freshens_L20 hst fu a0 a1 _ (fun s8 => ?_) fu s a1
      refine G_iinc (x := a1) (g := fun x9 => [vR a0, vI x9, vU]) (pc := 43) dX12_freshens_43 rfl (fun _ => rfl) (fun x9 => ?_)
      refine G_goto (tgt := 10) (pc := 46) dX12_freshens_46 ?_
      exact ih s8 x9
def fX12_freshens (fu : Nat) (s : z_M) (a0 : Int) : z_O := if z_ob a0 12 then z_let (s a0 36) (fun x1 => if (x1 : Int) = 0 then (fX12_freshens_L10 fu a0 fu s 0 (fun s10 => if z_ob a0 12 then z_bN (fX12_laysPairs fu s10 a0) (fun s11 => if z_ob a0 12 ∧ z_bl 1 then z_let (z_up s11 a0 36 1) (fun s12 => if z_ob a0 12 ∧ z_bl 0 then z_let (z_up s12 a0 43 0) (fun s13 => some (vN, s13)) else none) else none) else none)) else (some (vN, s))) else none
theorem gX12_freshens {l : Launch} {K : z_K} (hst : l.stackTraces = false) (fu : Nat) (s : z_M) (a0 : Int) : z_D l K mX12_freshens 5 112 0 0 [vR a0] s (fX12_freshens fu s a0) := by
  refine z_D_of (lv := [vR a0, vU, vU]) hst z_mX12_freshens rfl ?_ (Nat.le_of_ble_eq_true rfl) rfl
  unfold fX12_freshens
  refine G_aload_n (x := a0) (pc := 0) dX12_freshens_0 rfl ?_
  refine G_getI (j := 36) (pc := 1) dX12_freshens_1 rfl z_CLX12 (by decide) z_wX12_263 (by decide) (fun x1 => ?_)
  refine G_if_eq (tgt := 8) (pc := 4) dX12_freshens_4 ?_ ?_
  · refine G_iconst (pc := 8) dX12_freshens_8 ?_
    refine G_istore_n (lv' := [vR a0, vI 0, vU]) (pc := 9) dX12_freshens_9 rfl ?_
    refine gX12_freshens_L10 hst fu a0 _ (fun s10 => ?_) fu s 0
    refine G_aload_n (x := a0) (pc := 49) dX12_freshens_49 rfl ?_
    refine G_callVN (as := []) (st := []) (c := 12) (bc2 := 0) (bs2 := 0) (pc := 50) dX12_freshens_50 z_mX12_laysPairs z_vX12_laysPairs z_wX12_320 (gX12_laysPairs hst fu s10 a0) rfl rfl (by decide) rfl rfl ⟨by decide, by decide, by decide, by decide, Nat.le_of_ble_eq_true rfl⟩ rfl (fun s11 => ?_)
    refine G_aload_n (x := a0) (pc := 53) dX12_freshens_53 rfl ?_
    refine G_iconst (pc := 54) dX12_freshens_54 ?_
    refine G_putZ (j := 36) (pc := 55) dX12_freshens_55 rfl z_CLX12 (by decide) z_wX12_263 rfl (by decide) (fun s12 => ?_)
    refine G_aload_n (x := a0) (pc := 58) dX12_freshens_58 rfl ?_
    refine G_iconst (pc := 59) dX12_freshens_59 ?_
    refine G_putZ (j := 43) (pc := 60) dX12_freshens_60 rfl z_CLX12 (by decide) z_wX12_323 rfl (by decide) (fun s13 => ?_)
    exact G_vret (pc := 63) dX12_freshens_63
  · exact G_vret (pc := 7) dX12_freshens_7
def fX12_isPoint_J25 (fu : Nat) (s : z_M) (t0 : Int) : z_O := if z_bl t0 then some (vI t0, s) else none
theorem gX12_isPoint_J25 {l : Launch} {K : z_K} (hst : l.stackTraces = false) (fu : Nat) (s : z_M) (t0 : Int) : G l K mX12_isPoint 0 0 0 0 25 [vU, vU] [vI t0] s (fX12_isPoint_J25 fu s t0) := by
  unfold fX12_isPoint_J25
  exact G_zret (pc := 25) dX12_isPoint_25
def fX12_isPoint_J20 (fu : Nat) (s : z_M) : z_O := fX12_isPoint_J25 fu s 1
theorem gX12_isPoint_J20 {l : Launch} {K : z_K} (hst : l.stackTraces = false) (fu : Nat) (s : z_M) : G l K mX12_isPoint 0 0 0 0 20 [vU, vU] [] s (fX12_isPoint_J20 fu s) := by
  unfold fX12_isPoint_J20
  refine G_iconst (pc := 20) dX12_isPoint_20 ?_
  refine G_goto (tgt := 25) (pc := 21) dX12_isPoint_21 ?_
  exact gX12_isPoint_J25 hst fu s 1
def fX12_isPoint (fu : Nat) (s : z_M) (a0 : Int) (a1 : Int) : z_O := if z_ob a0 12 then z_let (z_gr a0 21) (fun x1 => if z_ix x1 100 a1 then z_let (s x1 a1) (fun x2 => if (x2 : Int) = 3 then (fX12_isPoint_J20 fu s) else (if z_ob a0 12 then z_let (z_gr a0 21) (fun x3 => if z_ix x3 100 a1 then z_let (s x3 a1) (fun x4 => if (x4 : Int) ≠ 5 then (fX12_isPoint_J25 fu s 0) else (fX12_isPoint_J20 fu s)) else none) else none)) else none) else none
theorem gX12_isPoint {l : Launch} {K : z_K} (hst : l.stackTraces = false) (fu : Nat) (s : z_M) (a0 : Int) (a1 : Int) : z_D l K mX12_isPoint 0 0 0 0 [vR a0, vI a1] s (fX12_isPoint fu s a0 a1) := by
  refine z_D_of (lv := [vR a0, vI a1]) hst z_mX12_isPoint rfl ?_ (Nat.le_of_ble_eq_true rfl) rfl
  unfold fX12_isPoint
  refine G_aload_n (x := a0) (pc := 0) dX12_isPoint_0 rfl ?_
  refine G_getR (j := 21) (pc := 1) dX12_isPoint_1 rfl z_CLX12 (by decide) z_wX12_54 (by decide) (fun x1 => ?_)
  refine G_iload_n (x := a1) (pc := 4) dX12_isPoint_4 rfl ?_
  refine G_iald (pc := 5) dX12_isPoint_5 (fun x2 => ?_)
  refine G_iconst (pc := 6) dX12_isPoint_6 ?_
  refine G_icmp_eq (tgt := 20) (pc := 7) dX12_isPoint_7 ?_ ?_
  · refine G_fg (lv2 := [vU, vU]) ⟨Or.inl rfl, Or.inl rfl, trivial⟩ ?_
    exact gX12_isPoint_J20 hst fu s
  · refine G_aload_n (x := a0) (pc := 10) dX12_isPoint_10 rfl ?_
    refine G_getR (j := 21) (pc := 11) dX12_isPoint_11 rfl z_CLX12 (by decide) z_wX12_54 (by decide) (fun x3 => ?_)
    refine G_iload_n (x := a1) (pc := 14) dX12_isPoint_14 rfl ?_
    refine G_iald (pc := 15) dX12_isPoint_15 (fun x4 => ?_)
    refine G_iconst (pc := 16) dX12_isPoint_16 ?_
    refine G_icmp_ne (tgt := 24) (pc := 17) dX12_isPoint_17 ?_ ?_
    · refine G_iconst (pc := 24) dX12_isPoint_24 ?_
      refine G_fg (lv2 := [vU, vU]) ⟨Or.inl rfl, Or.inl rfl, trivial⟩ ?_
      exact gX12_isPoint_J25 hst fu s 0
    · refine G_fg (lv2 := [vU, vU]) ⟨Or.inl rfl, Or.inl rfl, trivial⟩ ?_
      exact gX12_isPoint_J20 hst fu s
def fX12_mayEnd_J48 (fu : Nat) (s : z_M) (t0 : Int) : z_O := if z_bl t0 then some (vI t0, s) else none
theorem gX12_mayEnd_J48 {l : Launch} {K : z_K} (hst : l.stackTraces = false) (fu : Nat) (s : z_M) (t0 : Int) : G l K mX12_mayEnd 6 134 0 0 48 [vU, vU] [vI t0] s (fX12_mayEnd_J48 fu s t0) := by
  unfold fX12_mayEnd_J48
  exact G_zret (pc := 48) dX12_mayEnd_48
def fX12_mayEnd_J47 (fu : Nat) (s : z_M) : z_O := fX12_mayEnd_J48 fu s 0
theorem gX12_mayEnd_J47 {l : Launch} {K : z_K} (hst : l.stackTraces = false) (fu : Nat) (s : z_M) : G l K mX12_mayEnd 6 134 0 0 47 [vU, vU] [] s (fX12_mayEnd_J47 fu s) := by
  unfold fX12_mayEnd_J47
  refine G_iconst (pc := 47) dX12_mayEnd_47 ?_
  exact gX12_mayEnd_J48 hst fu s 0
def fX12_mayEnd (fu : Nat) (s : z_M) (a0 : Int) (a1 : Int) : z_O := if z_ob a0 12 then z_bN (fX12_freshens fu s a0) (fun s1 => z_let (z_w (a1 + 1)) (fun x2 => if z_ob a0 12 then z_let (s1 a0 20) (fun x3 => if (x3 : Int) ≤ x2 then (fX12_mayEnd_J47 fu s1) else (if z_ob a0 12 then z_let (z_gr a0 21) (fun x4 => if z_ix x4 100 a1 then z_let (s1 x4 a1) (fun x5 => if (x5 : Int) = 4 then (fX12_mayEnd_J47 fu s1) else (z_let (z_w (a1 + 1)) (fun x6 => if z_ob a0 12 then z_bI (fX12_isPoint fu s1 a0 x6) (fun x8 s7 => if (x8 : Int) ≠ 0 then (fX12_mayEnd_J47 fu s7) else (if z_ob a0 12 then z_let (z_gr a0 42) (fun x9 => if z_ix x9 102 a1 then z_let (s7 x9 a1) (fun x10 => if (x10 : Int) ≠ 0 then (fX12_mayEnd_J47 fu s7) else (fX12_mayEnd_J48 fu s7 1)) else none) else none)) else none))) else none) else none)) else none)) else none
theorem gX12_mayEnd {l : Launch} {K : z_K} (hst : l.stackTraces = false) (fu : Nat) (s : z_M) (a0 : Int) (a1 : Int) : z_D l K mX12_mayEnd 6 134 0 0 [vR a0, vI a1] s (fX12_mayEnd fu s a0 a1) := by
  refine z_D_of (lv := [vR a0, vI a1]) hst z_mX12_mayEnd rfl ?_ (Nat.le_of_ble_eq_true rfl) rfl
  unfold fX12_mayEnd
  refine G_aload_n (x := a0) (pc := 0) dX12_mayEnd_0 rfl ?_
  refine G_callVN (as := []) (st := []) (c := 12) (bc2 := 0) (bs2 := 0) (pc := 1) dX12_mayEnd_1 z_mX12_freshens z_vX12_freshens z_wX12_326 (gX12_freshens hst fu s a0) rfl rfl (by decide) rfl rfl ⟨by decide, by decide, by decide, by decide, Nat.le_of_ble_eq_true rfl⟩ rfl (fun s1 => ?_)
  refine G_iload_n (x := a1) (pc := 4) dX12_mayEnd_4 rfl ?_
  refine G_iconst (pc := 5) dX12_mayEnd_5 ?_
  refine G_iadd (pc := 6) dX12_mayEnd_6 (fun x2 => ?_)
  refine G_aload_n (x := a0) (pc := 7) dX12_mayEnd_7 rfl ?_
  refine G_getI (j := 20) (pc := 8) dX12_mayEnd_8 rfl z_CLX12 (by decide) z_wX12_242 (by decide) (fun x3 => ?_)
  refine G_icmp_ge (tgt := 47) (pc := 11) dX12_mayEnd_11 ?_ ?_
  · refine G_fg (lv2 := [vU, vU]) ⟨Or.inl rfl, Or.inl rfl, trivial⟩ ?_
    exact gX12_mayEnd_J47 hst fu s1
  · refine G_aload_n (x := a0) (pc := 14) dX12_mayEnd_14 rfl ?_
    refine G_getR (j := 21) (pc := 15) dX12_mayEnd_15 rfl z_CLX12 (by decide) z_wX12_54 (by decide) (fun x4 => ?_)
    refine G_iload_n (x := a1) (pc := 18) dX12_mayEnd_18 rfl ?_
    refine G_iald (pc := 19) dX12_mayEnd_19 (fun x5 => ?_)
    refine G_iconst (pc := 20) dX12_mayEnd_20 ?_
    refine G_icmp_eq (tgt := 47) (pc := 21) dX12_mayEnd_21 ?_ ?_
    · refine G_fg (lv2 := [vU, vU]) ⟨Or.inl rfl, Or.inl rfl, trivial⟩ ?_
      exact gX12_mayEnd_J47 hst fu s1
    · refine G_aload_n (x := a0) (pc := 24) dX12_mayEnd_24 rfl ?_
      refine G_iload_n (x := a1) (pc := 25) dX12_mayEnd_25 rfl ?_
      refine G_iconst (pc := 26) dX12_mayEnd_26 ?_
      refine G_iadd (pc := 27) dX12_mayEnd_27 (fun x6 => ?_)
      refine G_callVI (as := [vI x6]) (st := []) (c := 12) (bc2 := 0) (bs2 := 0) (pc := 28) dX12_mayEnd_28 z_mX12_isPoint z_vX12_isPoint z_wX12_282 (gX12_isPoint hst fu s1 a0 x6) rfl rfl (by decide) rfl rfl ⟨by decide, by decide, by decide, by decide, Nat.le_of_ble_eq_true rfl⟩ rfl (fun x8 s7 => ?_)
      refine G_if_ne (tgt := 47) (pc := 31) dX12_mayEnd_31 ?_ ?_
      · refine G_fg (lv2 := [vU, vU]) ⟨Or.inl rfl, Or.inl rfl, trivial⟩ ?_
        exact gX12_mayEnd_J47 hst fu s7
      · refine G_aload_n (x := a0) (pc := 34) dX12_mayEnd_34 rfl ?_
        refine G_getR (j := 42) (pc := 35) dX12_mayEnd_35 rfl z_CLX12 (by decide) z_wX12_105 (by decide) (fun x9 => ?_)
        refine G_iload_n (x := a1) (pc := 38) dX12_mayEnd_38 rfl ?_
        refine G_zald (pc := 39) dX12_mayEnd_39 (fun x10 => ?_)
        refine G_if_ne (tgt := 47) (pc := 40) dX12_mayEnd_40 ?_ ?_
        · refine G_fg (lv2 := [vU, vU]) ⟨Or.inl rfl, Or.inl rfl, trivial⟩ ?_
          exact gX12_mayEnd_J47 hst fu s7
        · refine G_iconst (pc := 43) dX12_mayEnd_43 ?_
          refine G_goto (tgt := 48) (pc := 44) dX12_mayEnd_44 ?_
          refine G_fg (lv2 := [vU, vU]) ⟨Or.inl rfl, Or.inl rfl, trivial⟩ ?_
          exact gX12_mayEnd_J48 hst fu s7 1
def fX12_laysSpaces_L5 (fu : Nat) (a0 : Int) (a1 : Int) (a2 : Int) (a4 : Int) : Nat → z_M → Int → (z_M → Int → z_O) → z_O
  | 0, _, _, _ => none
  | F + 1, s, a3, k => if (a2 : Int) < a3 then (k s a3) else (if z_ob a0 12 then z_let (z_gr a0 21) (fun x1 => if z_ix x1 100 a3 then z_let (s x1 a3) (fun x2 => if (x2 : Int) ≠ 6 then (k s a3) else (z_let (z_w (a3 + 1)) (fun x3 => fX12_laysSpaces_L5 fu a0 a1 a2 a4 F s x3 k))) else none) else none)
theorem gX12_laysSpaces_L5 {l : Launch} {K : z_K} (hst : l.stackTraces = false) (fu : Nat) (a0 : Int) (a1 : Int) (a2 : Int) (a4 : Int) (k : z_M → Int → z_O) (hk : ∀ (s : z_M) (a3 : Int), G l K mX12_laysSpaces 3 66 0 0 27 [vR a0, vI a1, vI a2, vI a3, vI a4, vU] [] s (k s a3)) : ∀ (F : Nat) (s : z_M) (a3 : Int), G l K mX12_laysSpaces 3 66 0 0 5 [vR a0, vI a1, vI a2, vI a3, vI a4, vU] [] s (fX12_laysSpaces_L5 fu a0 a1 a2 a4 F s a3 k) := by
  intro F
  induction F with
  | zero => exact fun s a3 h => absurd rfl h
  | succ F ih =>
    intro s a3
    rw [fX12_laysSpaces_L5]
    refine G_iload_n (x := a3) (pc := 5) dX12_laysSpaces_5 rfl ?_
    refine G_iload_n (x := a2) (pc := 6) dX12_laysSpaces_6 rfl ?_
    refine G_icmp_gt (tgt := 27) (pc := 7) dX12_laysSpaces_7 ?_ ?_
    · exact hk s a3
    · refine G_aload_n (x := a0) (pc := 10) dX12_laysSpaces_10 rfl ?_
      refine G_getR (j := 21) (pc := 11) dX12_laysSpaces_11 rfl z_CLX12 (by decide) z_wX12_54 (by decide) (fun x1 => ?_)
      refine G_iload_n (x := a3) (pc := 14) dX12_laysSpaces_14 rfl ?_
      refine G_iald (pc := 15) dX12_laysSpaces_15 (fun x2 => ?_)
      refine G_bipush (pc := 16) dX12_laysSpaces_16 ?_
      refine G_icmp_ne (tgt := 27) (pc := 18) dX12_laysSpaces_18 ?_ ?_
      · exact hk s a3
      · refine G_iinc (x := a3) (g := fun x3 => [vR a0, vI a1, vI a2, vI x3, vI a4, vU]) (pc := 21) dX12_laysSpaces_21 rfl (fun _ => rfl) (fun x3 => ?_)
        refine G_goto (tgt := 5) (pc := 24) dX12_laysSpaces_24 ?_
        exact ih s x3
def fX12_laysSpaces_L27 (fu : Nat) (a0 : Int) (a1 : Int) (a2 : Int) (a3 : Int) : Nat → z_M → Int → (z_M → Int → z_O) → z_O
  | 0, _, _, _ => none
  | F + 1, s, a4, k => if (a4 : Int) < a3 then (k s a4) else (if z_ob a0 12 then z_let (z_gr a0 21) (fun x6 => if z_ix x6 100 a4 then z_let (s x6 a4) (fun x7 => if (x7 : Int) ≠ 6 then (k s a4) else (z_let (z_w (a4 + (-1))) (fun x8 => fX12_laysSpaces_L27 fu a0 a1 a2 a3 F s x8 k))) else none) else none)
theorem gX12_laysSpaces_L27 {l : Launch} {K : z_K} (hst : l.stackTraces = false) (fu : Nat) (a0 : Int) (a1 : Int) (a2 : Int) (a3 : Int) (k : z_M → Int → z_O) (hk : ∀ (s : z_M) (a4 : Int), G l K mX12_laysSpaces 3 66 0 0 51 [vR a0, vI a1, vI a2, vI a3, vI a4, vU] [] s (k s a4)) : ∀ (F : Nat) (s : z_M) (a4 : Int), G l K mX12_laysSpaces 3 66 0 0 27 [vR a0, vI a1, vI a2, vI a3, vI a4, vU] [] s (fX12_laysSpaces_L27 fu a0 a1 a2 a3 F s a4 k) := by
  intro F
  induction F with
  | zero => exact fun s a4 h => absurd rfl h
  | succ F ih =>
    intro s a4
    rw [fX12_laysSpaces_L27]
    refine G_iload (x := a4) (pc := 27) dX12_laysSpaces_27 rfl ?_
    refine G_iload_n (x := a3) (pc := 29) dX12_laysSpaces_29 rfl ?_
    refine G_icmp_lt (tgt := 51) (pc := 30) dX12_laysSpaces_30 ?_ ?_
    · exact hk s a4
    · refine G_aload_n (x := a0) (pc := 33) dX12_laysSpaces_33 rfl ?_
      refine G_getR (j := 21) (pc := 34) dX12_laysSpaces_34 rfl z_CLX12 (by decide) z_wX12_54 (by decide) (fun x6 => ?_)
      refine G_iload (x := a4) (pc := 37) dX12_laysSpaces_37 rfl ?_
      refine G_iald (pc := 39) dX12_laysSpaces_39 (fun x7 => ?_)
      refine G_bipush (pc := 40) dX12_laysSpaces_40 ?_
      refine G_icmp_ne (tgt := 51) (pc := 42) dX12_laysSpaces_42 ?_ ?_
      · exact hk s a4
      · refine G_iinc (x := a4) (g := fun x8 => [vR a0, vI a1, vI a2, vI a3, vI x8, vU]) (pc := 45) dX12_laysSpaces_45 rfl (fun _ => rfl) (fun x8 => ?_)
        refine G_goto (tgt := 27) (pc := 48) dX12_laysSpaces_48 ?_
        exact ih s x8
def fX12_laysSpaces_J195 (fu : Nat) (s : z_M) (a0 : Int) (a2 : Int) (a3 : Int) (a4 : Int) (a5 : Int) (t0 : Int) (t1 : Int) (t2 : Int) (r : z_M → Int → z_O) (k : z_M → z_O) : z_O := if z_ix t0 100 t1 then z_let (z_up s t0 t1 t2) (fun s24 => z_let (z_w (a5 + 1)) (fun x25 => r s24 x25)) else none
theorem gX12_laysSpaces_J195 {l : Launch} {K : z_K} (hst : l.stackTraces = false) (fu : Nat) (s : z_M) (a0 : Int) (a2 : Int) (a3 : Int) (a4 : Int) (a5 : Int) (t0 : Int) (t1 : Int) (t2 : Int) (r : z_M → Int → z_O) (k : z_M → z_O) (hr : ∀ (s : z_M) (a5 : Int), G l K mX12_laysSpaces 3 66 0 0 54 [vR a0, vU, vI a2, vI a3, vI a4, vI a5] [] s (r s a5)) (hk : ∀ (s : z_M), G l K mX12_laysSpaces 3 66 0 0 202 [vR a0, vU, vI a2, vI a3, vI a4, vU] [] s (k s)) : G l K mX12_laysSpaces 3 66 0 0 195 [vR a0, vU, vI a2, vI a3, vI a4, vI a5] [vI t2, vI t1, vR t0] s (fX12_laysSpaces_J195 fu s a0 a2 a3 a4 a5 t0 t1 t2 r k) := by
  unfold fX12_laysSpaces_J195
  refine G_iast (pc := 195) dX12_laysSpaces_195 (fun s24 => ?_)
  refine G_iinc (x := a5) (g := fun x25 => [vR a0, vU, vI a2, vI a3, vI a4, vI x25]) (pc := 196) dX12_laysSpaces_196 rfl (fun _ => rfl) (fun x25 => ?_)
  refine G_goto (tgt := 54) (pc := 199) dX12_laysSpaces_199 ?_
  exact hr s24 x25
def fX12_laysSpaces_J194 (fu : Nat) (s : z_M) (a0 : Int) (a2 : Int) (a3 : Int) (a4 : Int) (a5 : Int) (t0 : Int) (t1 : Int) (r : z_M → Int → z_O) (k : z_M → z_O) : z_O := fX12_laysSpaces_J195 fu s a0 a2 a3 a4 a5 t0 t1 0 (fun w v5 => r w v5) k
theorem gX12_laysSpaces_J194 {l : Launch} {K : z_K} (hst : l.stackTraces = false) (fu : Nat) (s : z_M) (a0 : Int) (a2 : Int) (a3 : Int) (a4 : Int) (a5 : Int) (t0 : Int) (t1 : Int) (r : z_M → Int → z_O) (k : z_M → z_O) (hr : ∀ (s : z_M) (a5 : Int), G l K mX12_laysSpaces 3 66 0 0 54 [vR a0, vU, vI a2, vI a3, vI a4, vI a5] [] s (r s a5)) (hk : ∀ (s : z_M), G l K mX12_laysSpaces 3 66 0 0 202 [vR a0, vU, vI a2, vI a3, vI a4, vU] [] s (k s)) : G l K mX12_laysSpaces 3 66 0 0 194 [vR a0, vU, vI a2, vI a3, vI a4, vI a5] [vI t1, vR t0] s (fX12_laysSpaces_J194 fu s a0 a2 a3 a4 a5 t0 t1 r k) := by
  unfold fX12_laysSpaces_J194
  refine G_iconst (pc := 194) dX12_laysSpaces_194 ?_
  exact gX12_laysSpaces_J195 hst fu s a0 a2 a3 a4 a5 t0 t1 0 _ _ (fun w v5 => hr w v5) hk
def fX12_laysSpaces_J155 (fu : Nat) (s : z_M) (a0 : Int) (a2 : Int) (a3 : Int) (a4 : Int) (a5 : Int) (t0 : Int) (t1 : Int) (t2 : Int) (r : z_M → Int → z_O) (k : z_M → z_O) : z_O := if z_ix t0 100 t1 then z_let (z_up s t0 t1 t2) (fun s20 => if z_ob a0 12 then z_let (z_gr a0 27) (fun x21 => if z_ob a0 12 then z_bI (fX12_isPoint fu s20 a0 a5) (fun x23 s22 => if (x23 : Int) = 0 then (fX12_laysSpaces_J194 fu s22 a0 a2 a3 a4 a5 x21 a5 (fun w v5 => r w v5) k) else (if (a4 : Int) ≤ a5 then (fX12_laysSpaces_J194 fu s22 a0 a2 a3 a4 a5 x21 a5 (fun w v5 => r w v5) k) else (z_let (z_w (a5 + 1)) (fun x26 => if z_ob a0 12 then z_bI (fX12_isPoint fu s22 a0 x26) (fun x28 s27 => if (x28 : Int) ≠ 0 then (fX12_laysSpaces_J194 fu s27 a0 a2 a3 a4 a5 x21 a5 (fun w v5 => r w v5) k) else (fX12_laysSpaces_J195 fu s27 a0 a2 a3 a4 a5 x21 a5 6 (fun w v5 => r w v5) k)) else none)))) else none) else none) else none
theorem gX12_laysSpaces_J155 {l : Launch} {K : z_K} (hst : l.stackTraces = false) (fu : Nat) (s : z_M) (a0 : Int) (a2 : Int) (a3 : Int) (a4 : Int) (a5 : Int) (t0 : Int) (t1 : Int) (t2 : Int) (r : z_M → Int → z_O) (k : z_M → z_O) (hr : ∀ (s : z_M) (a5 : Int), G l K mX12_laysSpaces 3 66 0 0 54 [vR a0, vU, vI a2, vI a3, vI a4, vI a5] [] s (r s a5)) (hk : ∀ (s : z_M), G l K mX12_laysSpaces 3 66 0 0 202 [vR a0, vU, vI a2, vI a3, vI a4, vU] [] s (k s)) : G l K mX12_laysSpaces 3 66 0 0 155 [vR a0, vU, vI a2, vI a3, vI a4, vI a5] [vI t2, vI t1, vR t0] s (fX12_laysSpaces_J155 fu s a0 a2 a3 a4 a5 t0 t1 t2 r k) := by
  unfold fX12_laysSpaces_J155
  refine G_iast (pc := 155) dX12_laysSpaces_155 (fun s20 => ?_)
  refine G_aload_n (x := a0) (pc := 156) dX12_laysSpaces_156 rfl ?_
  refine G_getR (j := 27) (pc := 157) dX12_laysSpaces_157 rfl z_CLX12 (by decide) z_wX12_72 (by decide) (fun x21 => ?_)
  refine G_iload (x := a5) (pc := 160) dX12_laysSpaces_160 rfl ?_
  refine G_aload_n (x := a0) (pc := 162) dX12_laysSpaces_162 rfl ?_
  refine G_iload (x := a5) (pc := 163) dX12_laysSpaces_163 rfl ?_
  refine G_callVI (as := [vI a5]) (st := [vI a5, vR x21]) (c := 12) (bc2 := 0) (bs2 := 0) (pc := 165) dX12_laysSpaces_165 z_mX12_isPoint z_vX12_isPoint z_wX12_282 (gX12_isPoint hst fu s20 a0 a5) rfl rfl (by decide) rfl rfl ⟨by decide, by decide, by decide, by decide, Nat.le_of_ble_eq_true rfl⟩ rfl (fun x23 s22 => ?_)
  refine G_if_eq (tgt := 194) (pc := 168) dX12_laysSpaces_168 ?_ ?_
  · exact gX12_laysSpaces_J194 hst fu s22 a0 a2 a3 a4 a5 x21 a5 _ _ (fun w v5 => hr w v5) hk
  · refine G_iload (x := a5) (pc := 171) dX12_laysSpaces_171 rfl ?_
    refine G_iload (x := a4) (pc := 173) dX12_laysSpaces_173 rfl ?_
    refine G_icmp_ge (tgt := 194) (pc := 175) dX12_laysSpaces_175 ?_ ?_
    · exact gX12_laysSpaces_J194 hst fu s22 a0 a2 a3 a4 a5 x21 a5 _ _ (fun w v5 => hr w v5) hk
    · refine G_aload_n (x := a0) (pc := 178) dX12_laysSpaces_178 rfl ?_
      refine G_iload (x := a5) (pc := 179) dX12_laysSpaces_179 rfl ?_
      refine G_iconst (pc := 181) dX12_laysSpaces_181 ?_
      refine G_iadd (pc := 182) dX12_laysSpaces_182 (fun x26 => ?_)
      refine G_callVI (as := [vI x26]) (st := [vI a5, vR x21]) (c := 12) (bc2 := 0) (bs2 := 0) (pc := 183) dX12_laysSpaces_183 z_mX12_isPoint z_vX12_isPoint z_wX12_282 (gX12_isPoint hst fu s22 a0 x26) rfl rfl (by decide) rfl rfl ⟨by decide, by decide, by decide, by decide, Nat.le_of_ble_eq_true rfl⟩ rfl (fun x28 s27 => ?_)
      refine G_if_ne (tgt := 194) (pc := 186) dX12_laysSpaces_186 ?_ ?_
      · exact gX12_laysSpaces_J194 hst fu s27 a0 a2 a3 a4 a5 x21 a5 _ _ (fun w v5 => hr w v5) hk
      · refine G_bipush (pc := 189) dX12_laysSpaces_189 ?_
        refine G_goto (tgt := 195) (pc := 191) dX12_laysSpaces_191 ?_
        exact gX12_laysSpaces_J195 hst fu s27 a0 a2 a3 a4 a5 x21 a5 6 _ _ (fun w v5 => hr w v5) hk
def fX12_laysSpaces_J154 (fu : Nat) (s : z_M) (a0 : Int) (a2 : Int) (a3 : Int) (a4 : Int) (a5 : Int) (t0 : Int) (t1 : Int) (r : z_M → Int → z_O) (k : z_M → z_O) : z_O := fX12_laysSpaces_J155 fu s a0 a2 a3 a4 a5 t0 t1 0 (fun w v5 => r w v5) k
theorem gX12_laysSpaces_J154 {l : Launch} {K : z_K} (hst : l.stackTraces = false) (fu : Nat) (s : z_M) (a0 : Int) (a2 : Int) (a3 : Int) (a4 : Int) (a5 : Int) (t0 : Int) (t1 : Int) (r : z_M → Int → z_O) (k : z_M → z_O) (hr : ∀ (s : z_M) (a5 : Int), G l K mX12_laysSpaces 3 66 0 0 54 [vR a0, vU, vI a2, vI a3, vI a4, vI a5] [] s (r s a5)) (hk : ∀ (s : z_M), G l K mX12_laysSpaces 3 66 0 0 202 [vR a0, vU, vI a2, vI a3, vI a4, vU] [] s (k s)) : G l K mX12_laysSpaces 3 66 0 0 154 [vR a0, vU, vI a2, vI a3, vI a4, vI a5] [vI t1, vR t0] s (fX12_laysSpaces_J154 fu s a0 a2 a3 a4 a5 t0 t1 r k) := by
  unfold fX12_laysSpaces_J154
  refine G_iconst (pc := 154) dX12_laysSpaces_154 ?_
  exact gX12_laysSpaces_J155 hst fu s a0 a2 a3 a4 a5 t0 t1 0 _ _ (fun w v5 => hr w v5) hk
def fX12_laysSpaces_J101 (fu : Nat) (s : z_M) (a0 : Int) (a2 : Int) (a3 : Int) (a4 : Int) (a5 : Int) (t0 : Int) (t1 : Int) (t2 : Int) (r : z_M → Int → z_O) (k : z_M → z_O) : z_O := if z_ix t0 100 t1 then z_let (z_up s t0 t1 t2) (fun s16 => if z_ob a0 12 then z_let (z_gr a0 26) (fun x17 => if z_ob a0 12 then z_let (z_gr a0 21) (fun x18 => if z_ix x18 100 a5 then z_let (s16 x18 a5) (fun x19 => if (x19 : Int) ≠ 4 then (fX12_laysSpaces_J154 fu s16 a0 a2 a3 a4 a5 x17 a5 (fun w v5 => r w v5) k) else (if (a5 : Int) ≤ a3 then (fX12_laysSpaces_J154 fu s16 a0 a2 a3 a4 a5 x17 a5 (fun w v5 => r w v5) k) else (z_let (z_w (a5 - 1)) (fun x29 => if z_ob a0 12 then z_bI (fX12_isPoint fu s16 a0 x29) (fun x31 s30 => if (x31 : Int) ≠ 0 then (fX12_laysSpaces_J154 fu s30 a0 a2 a3 a4 a5 x17 a5 (fun w v5 => r w v5) k) else (if z_ob a0 12 then z_let (z_gr a0 21) (fun x32 => z_let (z_w (a5 - 1)) (fun x33 => if z_ix x32 100 x33 then z_let (s30 x32 x33) (fun x34 => if (x34 : Int) = 4 then (fX12_laysSpaces_J154 fu s30 a0 a2 a3 a4 a5 x17 a5 (fun w v5 => r w v5) k) else (fX12_laysSpaces_J155 fu s30 a0 a2 a3 a4 a5 x17 a5 6 (fun w v5 => r w v5) k)) else none)) else none)) else none)))) else none) else none) else none) else none
theorem gX12_laysSpaces_J101 {l : Launch} {K : z_K} (hst : l.stackTraces = false) (fu : Nat) (s : z_M) (a0 : Int) (a2 : Int) (a3 : Int) (a4 : Int) (a5 : Int) (t0 : Int) (t1 : Int) (t2 : Int) (r : z_M → Int → z_O) (k : z_M → z_O) (hr : ∀ (s : z_M) (a5 : Int), G l K mX12_laysSpaces 3 66 0 0 54 [vR a0, vU, vI a2, vI a3, vI a4, vI a5] [] s (r s a5)) (hk : ∀ (s : z_M), G l K mX12_laysSpaces 3 66 0 0 202 [vR a0, vU, vI a2, vI a3, vI a4, vU] [] s (k s)) : G l K mX12_laysSpaces 3 66 0 0 101 [vR a0, vU, vI a2, vI a3, vI a4, vI a5] [vI t2, vI t1, vR t0] s (fX12_laysSpaces_J101 fu s a0 a2 a3 a4 a5 t0 t1 t2 r k) := by
  unfold fX12_laysSpaces_J101
  refine G_iast (pc := 101) dX12_laysSpaces_101 (fun s16 => ?_)
  refine G_aload_n (x := a0) (pc := 102) dX12_laysSpaces_102 rfl ?_
  refine G_getR (j := 26) (pc := 103) dX12_laysSpaces_103 rfl z_CLX12 (by decide) z_wX12_69 (by decide) (fun x17 => ?_)
  refine G_iload (x := a5) (pc := 106) dX12_laysSpaces_106 rfl ?_
  refine G_aload_n (x := a0) (pc := 108) dX12_laysSpaces_108 rfl ?_
  refine G_getR (j := 21) (pc := 109) dX12_laysSpaces_109 rfl z_CLX12 (by decide) z_wX12_54 (by decide) (fun x18 => ?_)
  refine G_iload (x := a5) (pc := 112) dX12_laysSpaces_112 rfl ?_
  refine G_iald (pc := 114) dX12_laysSpaces_114 (fun x19 => ?_)
  refine G_iconst (pc := 115) dX12_laysSpaces_115 ?_
  refine G_icmp_ne (tgt := 154) (pc := 116) dX12_laysSpaces_116 ?_ ?_
  · exact gX12_laysSpaces_J154 hst fu s16 a0 a2 a3 a4 a5 x17 a5 _ _ (fun w v5 => hr w v5) hk
  · refine G_iload (x := a5) (pc := 119) dX12_laysSpaces_119 rfl ?_
    refine G_iload_n (x := a3) (pc := 121) dX12_laysSpaces_121 rfl ?_
    refine G_icmp_le (tgt := 154) (pc := 122) dX12_laysSpaces_122 ?_ ?_
    · exact gX12_laysSpaces_J154 hst fu s16 a0 a2 a3 a4 a5 x17 a5 _ _ (fun w v5 => hr w v5) hk
    · refine G_aload_n (x := a0) (pc := 125) dX12_laysSpaces_125 rfl ?_
      refine G_iload (x := a5) (pc := 126) dX12_laysSpaces_126 rfl ?_
      refine G_iconst (pc := 128) dX12_laysSpaces_128 ?_
      refine G_isub (pc := 129) dX12_laysSpaces_129 (fun x29 => ?_)
      refine G_callVI (as := [vI x29]) (st := [vI a5, vR x17]) (c := 12) (bc2 := 0) (bs2 := 0) (pc := 130) dX12_laysSpaces_130 z_mX12_isPoint z_vX12_isPoint z_wX12_282 (gX12_isPoint hst fu s16 a0 x29) rfl rfl (by decide) rfl rfl ⟨by decide, by decide, by decide, by decide, Nat.le_of_ble_eq_true rfl⟩ rfl (fun x31 s30 => ?_)
      refine G_if_ne (tgt := 154) (pc := 133) dX12_laysSpaces_133 ?_ ?_
      · exact gX12_laysSpaces_J154 hst fu s30 a0 a2 a3 a4 a5 x17 a5 _ _ (fun w v5 => hr w v5) hk
      · refine G_aload_n (x := a0) (pc := 136) dX12_laysSpaces_136 rfl ?_
        refine G_getR (j := 21) (pc := 137) dX12_laysSpaces_137 rfl z_CLX12 (by decide) z_wX12_54 (by decide) (fun x32 => ?_)
        refine G_iload (x := a5) (pc := 140) dX12_laysSpaces_140 rfl ?_
        refine G_iconst (pc := 142) dX12_laysSpaces_142 ?_
        refine G_isub (pc := 143) dX12_laysSpaces_143 (fun x33 => ?_)
        refine G_iald (pc := 144) dX12_laysSpaces_144 (fun x34 => ?_)
        refine G_iconst (pc := 145) dX12_laysSpaces_145 ?_
        refine G_icmp_eq (tgt := 154) (pc := 146) dX12_laysSpaces_146 ?_ ?_
        · exact gX12_laysSpaces_J154 hst fu s30 a0 a2 a3 a4 a5 x17 a5 _ _ (fun w v5 => hr w v5) hk
        · refine G_bipush (pc := 149) dX12_laysSpaces_149 ?_
          refine G_goto (tgt := 155) (pc := 151) dX12_laysSpaces_151 ?_
          exact gX12_laysSpaces_J155 hst fu s30 a0 a2 a3 a4 a5 x17 a5 6 _ _ (fun w v5 => hr w v5) hk
def fX12_laysSpaces_J95 (fu : Nat) (s : z_M) (a0 : Int) (a2 : Int) (a3 : Int) (a4 : Int) (a5 : Int) (t0 : Int) (t1 : Int) (r : z_M → Int → z_O) (k : z_M → z_O) : z_O := if z_ob a0 12 then z_bI (fX12_width fu s a0 a5) (fun x15 s14 => fX12_laysSpaces_J101 fu s14 a0 a2 a3 a4 a5 t0 t1 x15 (fun w v5 => r w v5) k) else none
theorem gX12_laysSpaces_J95 {l : Launch} {K : z_K} (hst : l.stackTraces = false) (fu : Nat) (s : z_M) (a0 : Int) (a2 : Int) (a3 : Int) (a4 : Int) (a5 : Int) (t0 : Int) (t1 : Int) (r : z_M → Int → z_O) (k : z_M → z_O) (hr : ∀ (s : z_M) (a5 : Int), G l K mX12_laysSpaces 3 66 0 0 54 [vR a0, vU, vI a2, vI a3, vI a4, vI a5] [] s (r s a5)) (hk : ∀ (s : z_M), G l K mX12_laysSpaces 3 66 0 0 202 [vR a0, vU, vI a2, vI a3, vI a4, vU] [] s (k s)) : G l K mX12_laysSpaces 3 66 0 0 95 [vR a0, vU, vI a2, vI a3, vI a4, vI a5] [vI t1, vR t0] s (fX12_laysSpaces_J95 fu s a0 a2 a3 a4 a5 t0 t1 r k) := by
  unfold fX12_laysSpaces_J95
  refine G_aload_n (x := a0) (pc := 95) dX12_laysSpaces_95 rfl ?_
  refine G_iload (x := a5) (pc := 96) dX12_laysSpaces_96 rfl ?_
  refine G_callVI (as := [vI a5]) (st := [vI t1, vR t0]) (c := 12) (bc2 := 0) (bs2 := 0) (pc := 98) dX12_laysSpaces_98 z_mX12_width z_vX12_width z_wX12_279 (gX12_width hst fu s a0 a5) rfl rfl (by decide) rfl rfl ⟨by decide, by decide, by decide, by decide, Nat.le_of_ble_eq_true rfl⟩ rfl (fun x15 s14 => ?_)
  exact gX12_laysSpaces_J101 hst fu s14 a0 a2 a3 a4 a5 t0 t1 x15 _ _ (fun w v5 => hr w v5) hk
def fX12_laysSpaces_J91 (fu : Nat) (s : z_M) (a0 : Int) (a2 : Int) (a3 : Int) (a4 : Int) (a5 : Int) (t0 : Int) (t1 : Int) (r : z_M → Int → z_O) (k : z_M → z_O) : z_O := fX12_laysSpaces_J101 fu s a0 a2 a3 a4 a5 t0 t1 0 (fun w v5 => r w v5) k
theorem gX12_laysSpaces_J91 {l : Launch} {K : z_K} (hst : l.stackTraces = false) (fu : Nat) (s : z_M) (a0 : Int) (a2 : Int) (a3 : Int) (a4 : Int) (a5 : Int) (t0 : Int) (t1 : Int) (r : z_M → Int → z_O) (k : z_M → z_O) (hr : ∀ (s : z_M) (a5 : Int), G l K mX12_laysSpaces 3 66 0 0 54 [vR a0, vU, vI a2, vI a3, vI a4, vI a5] [] s (r s a5)) (hk : ∀ (s : z_M), G l K mX12_laysSpaces 3 66 0 0 202 [vR a0, vU, vI a2, vI a3, vI a4, vU] [] s (k s)) : G l K mX12_laysSpaces 3 66 0 0 91 [vR a0, vU, vI a2, vI a3, vI a4, vI a5] [vI t1, vR t0] s (fX12_laysSpaces_J91 fu s a0 a2 a3 a4 a5 t0 t1 r k) := by
  unfold fX12_laysSpaces_J91
  refine G_iconst (pc := 91) dX12_laysSpaces_91 ?_
  refine G_goto (tgt := 101) (pc := 92) dX12_laysSpaces_92 ?_
  exact gX12_laysSpaces_J101 hst fu s a0 a2 a3 a4 a5 t0 t1 0 _ _ (fun w v5 => hr w v5) hk
def fX12_laysSpaces_L54 (fu : Nat) (a0 : Int) (a2 : Int) (a3 : Int) (a4 : Int) : Nat → z_M → Int → (z_M → z_O) → z_O
  | 0, _, _, _ => none
  | F + 1, s, a5, k => if (a2 : Int) < a5 then (k s) else (if z_ob a0 12 then z_let (z_gr a0 25) (fun x11 => if z_ob a0 12 then z_let (z_gr a0 21) (fun x12 => if z_ix x12 100 a5 then z_let (s x12 a5) (fun x13 => if (x13 : Int) ≠ 6 then (fX12_laysSpaces_J95 fu s a0 a2 a3 a4 a5 x11 a5 (fun w v5 => fX12_laysSpaces_L54 fu a0 a2 a3 a4 F w v5 k) k) else (if (a5 : Int) < a3 then (fX12_laysSpaces_J91 fu s a0 a2 a3 a4 a5 x11 a5 (fun w v5 => fX12_laysSpaces_L54 fu a0 a2 a3 a4 F w v5 k) k) else (if (a5 : Int) ≤ a4 then (fX12_laysSpaces_J95 fu s a0 a2 a3 a4 a5 x11 a5 (fun w v5 => fX12_laysSpaces_L54 fu a0 a2 a3 a4 F w v5 k) k) else (fX12_laysSpaces_J91 fu s a0 a2 a3 a4 a5 x11 a5 (fun w v5 => fX12_laysSpaces_L54 fu a0 a2 a3 a4 F w v5 k) k)))) else none) else none) else none)
theorem gX12_laysSpaces_L54 {l : Launch} {K : z_K} (hst : l.stackTraces = false) (fu : Nat) (a0 : Int) (a2 : Int) (a3 : Int) (a4 : Int) (k : z_M → z_O) (hk : ∀ (s : z_M), G l K mX12_laysSpaces 3 66 0 0 202 [vR a0, vU, vI a2, vI a3, vI a4, vU] [] s (k s)) : ∀ (F : Nat) (s : z_M) (a5 : Int), G l K mX12_laysSpaces 3 66 0 0 54 [vR a0, vU, vI a2, vI a3, vI a4, vI a5] [] s (fX12_laysSpaces_L54 fu a0 a2 a3 a4 F s a5 k) := by
  intro F
  induction F with
  | zero => exact fun s a5 h => absurd rfl h
  | succ F ih =>
    intro s a5
    rw [fX12_laysSpaces_L54]
    refine G_iload (x := a5) (pc := 54) dX12_laysSpaces_54 rfl ?_
    refine G_iload_n (x := a2) (pc := 56) dX12_laysSpaces_56 rfl ?_
    refine G_icmp_gt (tgt := 202) (pc := 57) dX12_laysSpaces_57 ?_ ?_
    · refine G_fg (lv2 := [vR a0, vU, vI a2, vI a3, vI a4, vU]) ⟨Or.inr rfl, Or.inl rfl, Or.inr rfl, Or.inr rfl, Or.inr rfl, Or.inl rfl, trivial⟩ ?_
      exact hk s
    · refine G_aload_n (x := a0) (pc := 60) dX12_laysSpaces_60 rfl ?_
      refine G_getR (j := 25) (pc := 61) dX12_laysSpaces_61 rfl z_CLX12 (by decide) z_wX12_66 (by decide) (fun x11 => ?_)
      refine G_iload (x := a5) (pc := 64) dX12_laysSpaces_64 rfl ?_
      refine G_aload_n (x := a0) (pc := 66) dX12_laysSpaces_66 rfl ?_
      refine G_getR (j := 21) (pc := 67) dX12_laysSpaces_67 rfl z_CLX12 (by decide) z_wX12_54 (by decide) (fun x12 => ?_)
      refine G_iload (x := a5) (pc := 70) dX12_laysSpaces_70 rfl ?_
      refine G_iald (pc := 72) dX12_laysSpaces_72 (fun x13 => ?_)
      refine G_bipush (pc := 73) dX12_laysSpaces_73 ?_
      refine G_icmp_ne (tgt := 95) (pc := 75) dX12_laysSpaces_75 ?_ ?_
      · exact gX12_laysSpaces_J95 hst fu s a0 a2 a3 a4 a5 x11 a5 _ _ (fun w v5 => ih w v5) hk
      · refine G_iload (x := a5) (pc := 78) dX12_laysSpaces_78 rfl ?_
        refine G_iload_n (x := a3) (pc := 80) dX12_laysSpaces_80 rfl ?_
        refine G_icmp_lt (tgt := 91) (pc := 81) dX12_laysSpaces_81 ?_ ?_
        · exact gX12_laysSpaces_J91 hst fu s a0 a2 a3 a4 a5 x11 a5 _ _ (fun w v5 => ih w v5) hk
        · refine G_iload (x := a5) (pc := 84) dX12_laysSpaces_84 rfl ?_
          refine G_iload (x := a4) (pc := 86) dX12_laysSpaces_86 rfl ?_
          refine G_icmp_le (tgt := 95) (pc := 88) dX12_laysSpaces_88 ?_ ?_
          · exact gX12_laysSpaces_J95 hst fu s a0 a2 a3 a4 a5 x11 a5 _ _ (fun w v5 => ih w v5) hk
          · exact gX12_laysSpaces_J91 hst fu s a0 a2 a3 a4 a5 x11 a5 _ _ (fun w v5 => ih w v5) hk
def fX12_laysSpaces_J253 (fu : Nat) (s : z_M) : z_O := some (vN, s)
theorem gX12_laysSpaces_J253 {l : Launch} {K : z_K} (hst : l.stackTraces = false) (fu : Nat) (s : z_M) : G l K mX12_laysSpaces 3 66 0 0 253 [vU, vU, vU, vU, vU, vU] [] s (fX12_laysSpaces_J253 fu s) := by
  unfold fX12_laysSpaces_J253
  exact G_vret (pc := 253) dX12_laysSpaces_253
def fX12_laysSpaces_J235 (fu : Nat) (s : z_M) (a0 : Int) (a4 : Int) (t0 : Int) (t1 : Int) : z_O := if z_ob t0 12 ∧ z_bl t1 then z_let (z_up s t0 35 t1) (fun s38 => if z_ob a0 12 then z_let (s38 a0 35) (fun x39 => if (x39 : Int) = 0 then (fX12_laysSpaces_J253 fu s38) else (if z_ob a0 12 then z_let (z_gr a0 25) (fun x40 => if z_ix x40 100 a4 then z_let (z_up s38 x40 a4 0) (fun s41 => fX12_laysSpaces_J253 fu s41) else none) else none)) else none) else none
theorem gX12_laysSpaces_J235 {l : Launch} {K : z_K} (hst : l.stackTraces = false) (fu : Nat) (s : z_M) (a0 : Int) (a4 : Int) (t0 : Int) (t1 : Int) : G l K mX12_laysSpaces 3 66 0 0 235 [vR a0, vU, vU, vU, vI a4, vU] [vI t1, vR t0] s (fX12_laysSpaces_J235 fu s a0 a4 t0 t1) := by
  unfold fX12_laysSpaces_J235
  refine G_putZ (j := 35) (pc := 235) dX12_laysSpaces_235 rfl z_CLX12 (by decide) z_wX12_285 rfl (by decide) (fun s38 => ?_)
  refine G_aload_n (x := a0) (pc := 238) dX12_laysSpaces_238 rfl ?_
  refine G_getI (j := 35) (pc := 239) dX12_laysSpaces_239 rfl z_CLX12 (by decide) z_wX12_285 (by decide) (fun x39 => ?_)
  refine G_if_eq (tgt := 253) (pc := 242) dX12_laysSpaces_242 ?_ ?_
  · refine G_fg (lv2 := [vU, vU, vU, vU, vU, vU]) ⟨Or.inl rfl, Or.inl rfl, Or.inl rfl, Or.inl rfl, Or.inl rfl, Or.inl rfl, trivial⟩ ?_
    exact gX12_laysSpaces_J253 hst fu s38
  · refine G_aload_n (x := a0) (pc := 245) dX12_laysSpaces_245 rfl ?_
    refine G_getR (j := 25) (pc := 246) dX12_laysSpaces_246 rfl z_CLX12 (by decide) z_wX12_66 (by decide) (fun x40 => ?_)
    refine G_iload (x := a4) (pc := 249) dX12_laysSpaces_249 rfl ?_
    refine G_iconst (pc := 251) dX12_laysSpaces_251 ?_
    refine G_iast (pc := 252) dX12_laysSpaces_252 (fun s41 => ?_)
    refine G_fg (lv2 := [vU, vU, vU, vU, vU, vU]) ⟨Or.inl rfl, Or.inl rfl, Or.inl rfl, Or.inl rfl, Or.inl rfl, Or.inl rfl, trivial⟩ ?_
    exact gX12_laysSpaces_J253 hst fu s41
def fX12_laysSpaces_J234 (fu : Nat) (s : z_M) (a0 : Int) (a4 : Int) (t0 : Int) : z_O := fX12_laysSpaces_J235 fu s a0 a4 t0 0
theorem gX12_laysSpaces_J234 {l : Launch} {K : z_K} (hst : l.stackTraces = false) (fu : Nat) (s : z_M) (a0 : Int) (a4 : Int) (t0 : Int) : G l K mX12_laysSpaces 3 66 0 0 234 [vR a0, vU, vU, vU, vI a4, vU] [vR t0] s (fX12_laysSpaces_J234 fu s a0 a4 t0) := by
  unfold fX12_laysSpaces_J234
  refine G_iconst (pc := 234) dX12_laysSpaces_234 ?_
  exact gX12_laysSpaces_J235 hst fu s a0 a4 t0 0
def fX12_laysSpaces_J51 (fu : Nat) (s : z_M) (a0 : Int) (a1 : Int) (a2 : Int) (a3 : Int) (a4 : Int) : z_O := fX12_laysSpaces_L54 fu a0 a2 a3 a4 fu s a1 (fun s35 => if z_ob a0 12 then z_let (z_gr a0 9) (fun x36 => if z_ix x36 100 6 then z_let (s35 x36 6) (fun x37 => if (x37 : Int) ≠ 1 then (fX12_laysSpaces_J234 fu s35 a0 a4 a0) else (if (a2 : Int) < a3 then (fX12_laysSpaces_J234 fu s35 a0 a4 a0) else (if z_ob a0 12 then z_let (z_gr a0 21) (fun x42 => if z_ix x42 100 a4 then z_let (s35 x42 a4) (fun x43 => if (x43 : Int) ≠ 3 then (fX12_laysSpaces_J234 fu s35 a0 a4 a0) else (fX12_laysSpaces_J235 fu s35 a0 a4 a0 1)) else none) else none))) else none) else none)
theorem gX12_laysSpaces_J51 {l : Launch} {K : z_K} (hst : l.stackTraces = false) (fu : Nat) (s : z_M) (a0 : Int) (a1 : Int) (a2 : Int) (a3 : Int) (a4 : Int) : G l K mX12_laysSpaces 3 66 0 0 51 [vR a0, vI a1, vI a2, vI a3, vI a4, vU] [] s (fX12_laysSpaces_J51 fu s a0 a1 a2 a3 a4) := by
  unfold fX12_laysSpaces_J51
  refine G_iload_n (x := a1) (pc := 51) dX12_laysSpaces_51 rfl ?_
  refine G_istore (lv' := [vR a0, vI a1, vI a2, vI a3, vI a4, vI a1]) (pc := 52) dX12_laysSpaces_52 rfl ?_
  refine G_fg (lv2 := [vR a0, vU, vI a2, vI a3, vI a4, vI a1]) ⟨Or.inr rfl, Or.inl rfl, Or.inr rfl, Or.inr rfl, Or.inr rfl, Or.inr rfl, trivial⟩ ?_
  refine gX12_laysSpaces_L54 hst fu a0 a2 a3 a4 _ (fun s35 => ?_) fu s a1
  refine G_aload_n (x := a0) (pc := 202) dX12_laysSpaces_202 rfl ?_
  refine G_aload_n (x := a0) (pc := 203) dX12_laysSpaces_203 rfl ?_
  refine G_getR (j := 9) (pc := 204) dX12_laysSpaces_204 rfl z_CLX12 (by decide) z_wX12_20 (by decide) (fun x36 => ?_)
  refine G_bipush (pc := 207) dX12_laysSpaces_207 ?_
  refine G_iald (pc := 209) dX12_laysSpaces_209 (fun x37 => ?_)
  refine G_iconst (pc := 210) dX12_laysSpaces_210 ?_
  refine G_icmp_ne (tgt := 234) (pc := 211) dX12_laysSpaces_211 ?_ ?_
  · refine G_fg (lv2 := [vR a0, vU, vU, vU, vI a4, vU]) ⟨Or.inr rfl, Or.inl rfl, Or.inl rfl, Or.inl rfl, Or.inr rfl, Or.inl rfl, trivial⟩ ?_
    exact gX12_laysSpaces_J234 hst fu s35 a0 a4 a0
  · refine G_iload_n (x := a3) (pc := 214) dX12_laysSpaces_214 rfl ?_
    refine G_iload_n (x := a2) (pc := 215) dX12_laysSpaces_215 rfl ?_
    refine G_icmp_gt (tgt := 234) (pc := 216) dX12_laysSpaces_216 ?_ ?_
    · refine G_fg (lv2 := [vR a0, vU, vU, vU, vI a4, vU]) ⟨Or.inr rfl, Or.inl rfl, Or.inl rfl, Or.inl rfl, Or.inr rfl, Or.inl rfl, trivial⟩ ?_
      exact gX12_laysSpaces_J234 hst fu s35 a0 a4 a0
    · refine G_aload_n (x := a0) (pc := 219) dX12_laysSpaces_219 rfl ?_
      refine G_getR (j := 21) (pc := 220) dX12_laysSpaces_220 rfl z_CLX12 (by decide) z_wX12_54 (by decide) (fun x42 => ?_)
      refine G_iload (x := a4) (pc := 223) dX12_laysSpaces_223 rfl ?_
      refine G_iald (pc := 225) dX12_laysSpaces_225 (fun x43 => ?_)
      refine G_iconst (pc := 226) dX12_laysSpaces_226 ?_
      refine G_icmp_ne (tgt := 234) (pc := 227) dX12_laysSpaces_227 ?_ ?_
      · refine G_fg (lv2 := [vR a0, vU, vU, vU, vI a4, vU]) ⟨Or.inr rfl, Or.inl rfl, Or.inl rfl, Or.inl rfl, Or.inr rfl, Or.inl rfl, trivial⟩ ?_
        exact gX12_laysSpaces_J234 hst fu s35 a0 a4 a0
      · refine G_iconst (pc := 230) dX12_laysSpaces_230 ?_
        refine G_goto (tgt := 235) (pc := 231) dX12_laysSpaces_231 ?_
        refine G_fg (lv2 := [vR a0, vU, vU, vU, vI a4, vU]) ⟨Or.inr rfl, Or.inl rfl, Or.inl rfl, Or.inl rfl, Or.inr rfl, Or.inl rfl, trivial⟩ ?_
        exact gX12_laysSpaces_J235 hst fu s35 a0 a4 a0 1
def fX12_laysSpaces (fu : Nat) (s : z_M) (a0 : Int) (a1 : Int) (a2 : Int) : z_O := fX12_laysSpaces_L5 fu a0 a1 a2 a2 fu s a1 (fun s4 x5 => fX12_laysSpaces_L27 fu a0 a1 a2 x5 fu s4 a2 (fun s9 x10 => fX12_laysSpaces_J51 fu s9 a0 a1 a2 x5 x10))
theorem gX12_laysSpaces {l : Launch} {K : z_K} (hst : l.stackTraces = false) (fu : Nat) (s : z_M) (a0 : Int) (a1 : Int) (a2 : Int) : z_D l K mX12_laysSpaces 3 66 0 0 [vR a0, vI a1, vI a2] s (fX12_laysSpaces fu s a0 a1 a2) := by
  refine z_D_of (lv := [vR a0, vI a1, vI a2, vU, vU, vU]) hst z_mX12_laysSpaces rfl ?_ (Nat.le_of_ble_eq_true rfl) rfl
  unfold fX12_laysSpaces
  refine G_iload_n (x := a1) (pc := 0) dX12_laysSpaces_0 rfl ?_
  refine G_istore_n (lv' := [vR a0, vI a1, vI a2, vI a1, vU, vU]) (pc := 1) dX12_laysSpaces_1 rfl ?_
  refine G_iload_n (x := a2) (pc := 2) dX12_laysSpaces_2 rfl ?_
  refine G_istore (lv' := [vR a0, vI a1, vI a2, vI a1, vI a2, vU]) (pc := 3) dX12_laysSpaces_3 rfl ?_
  refine gX12_laysSpaces_L5 hst fu a0 a1 a2 a2 _ (fun s4 x5 => ?_) fu s a1
  refine gX12_laysSpaces_L27 hst fu a0 a1 a2 x5 _ (fun s9 x10 => ?_) fu s4 a2
  exact gX12_laysSpaces_J51 hst fu s9 a0 a1 a2 x5 x10
def fX12_group_J35 (fu : Nat) (s : z_M) (t0 : Int) : z_O := some (vI t0, s)
theorem gX12_group_J35 {l : Launch} {K : z_K} (hst : l.stackTraces = false) (fu : Nat) (s : z_M) (t0 : Int) : G l K mX12_group 0 0 0 0 35 [vU, vU] [vI t0] s (fX12_group_J35 fu s t0) := by
  unfold fX12_group_J35
  exact G_iret (pc := 35) dX12_group_35
def fX12_group (fu : Nat) (s : z_M) (a0 : Int) (a1 : Int) : z_O := if z_ob a0 12 then z_let (z_gr a0 21) (fun x1 => if z_ix x1 100 a1 then z_let (s x1 a1) (fun x2 => if (x2 : Int) ≠ 7 then (fX12_group_J35 fu s (-1)) else (if z_ob a0 12 then z_let (z_gr a0 17) (fun x3 => if z_ix x3 103 0 then z_let (z_gr x3 0) (fun x4 => if z_ob a0 12 then z_let (z_gr a0 15) (fun x5 => if z_ix x5 103 0 then z_let (z_gr x5 0) (fun x6 => if z_ob a0 12 then z_let (z_gr a0 22) (fun x7 => if z_ix x7 100 a1 then z_let (s x7 a1) (fun x8 => if z_ix x6 100 x8 then z_let (s x6 x8) (fun x9 => if z_ix x4 100 x9 then z_let (s x4 x9) (fun x10 => fX12_group_J35 fu s x10) else none) else none) else none) else none) else none) else none) else none) else none)) else none) else none
theorem gX12_group {l : Launch} {K : z_K} (hst : l.stackTraces = false) (fu : Nat) (s : z_M) (a0 : Int) (a1 : Int) : z_D l K mX12_group 0 0 0 0 [vR a0, vI a1] s (fX12_group fu s a0 a1) := by
  refine z_D_of (lv := [vR a0, vI a1]) hst z_mX12_group rfl ?_ (Nat.le_of_ble_eq_true rfl) rfl
  unfold fX12_group
  refine G_aload_n (x := a0) (pc := 0) dX12_group_0 rfl ?_
  refine G_getR (j := 21) (pc := 1) dX12_group_1 rfl z_CLX12 (by decide) z_wX12_54 (by decide) (fun x1 => ?_)
  refine G_iload_n (x := a1) (pc := 4) dX12_group_4 rfl ?_
  refine G_iald (pc := 5) dX12_group_5 (fun x2 => ?_)
  refine G_bipush (pc := 6) dX12_group_6 ?_
  refine G_icmp_ne (tgt := 34) (pc := 8) dX12_group_8 ?_ ?_
  · refine G_iconst (pc := 34) dX12_group_34 ?_
    refine G_fg (lv2 := [vU, vU]) ⟨Or.inl rfl, Or.inl rfl, trivial⟩ ?_
    exact gX12_group_J35 hst fu s (-1)
  · refine G_aload_n (x := a0) (pc := 11) dX12_group_11 rfl ?_
    refine G_getR (j := 17) (pc := 12) dX12_group_12 rfl z_CLX12 (by decide) z_wX12_46 (by decide) (fun x3 => ?_)
    refine G_iconst (pc := 15) dX12_group_15 ?_
    refine G_aald103 (pc := 16) dX12_group_16 (fun x4 => ?_)
    refine G_aload_n (x := a0) (pc := 17) dX12_group_17 rfl ?_
    refine G_getR (j := 15) (pc := 18) dX12_group_18 rfl z_CLX12 (by decide) z_wX12_40 (by decide) (fun x5 => ?_)
    refine G_iconst (pc := 21) dX12_group_21 ?_
    refine G_aald103 (pc := 22) dX12_group_22 (fun x6 => ?_)
    refine G_aload_n (x := a0) (pc := 23) dX12_group_23 rfl ?_
    refine G_getR (j := 22) (pc := 24) dX12_group_24 rfl z_CLX12 (by decide) z_wX12_57 (by decide) (fun x7 => ?_)
    refine G_iload_n (x := a1) (pc := 27) dX12_group_27 rfl ?_
    refine G_iald (pc := 28) dX12_group_28 (fun x8 => ?_)
    refine G_iald (pc := 29) dX12_group_29 (fun x9 => ?_)
    refine G_iald (pc := 30) dX12_group_30 (fun x10 => ?_)
    refine G_goto (tgt := 35) (pc := 31) dX12_group_31 ?_
    refine G_fg (lv2 := [vU, vU]) ⟨Or.inl rfl, Or.inl rfl, trivial⟩ ?_
    exact gX12_group_J35 hst fu s x10
def fX12_lettersOf (fu : Nat) (s : z_M) (a0 : Int) (a1 : Int) (a2 : Int) : z_O := if z_ob a0 12 then z_let (z_gr a0 18) (fun x1 => if z_ix x1 105 0 then z_let (z_gr x1 0) (fun x2 => if z_ob a0 12 then z_let (z_gr a0 15) (fun x3 => if z_ix x3 103 0 then z_let (z_gr x3 0) (fun x4 => if z_ob a0 12 then z_let (z_gr a0 22) (fun x5 => if z_ix x5 100 a1 then z_let (s x5 a1) (fun x6 => if z_ix x4 100 x6 then z_let (s x4 x6) (fun x7 => if z_ix x2 103 x7 then z_let (z_gr x2 x7) (fun x8 => z_let (z_w (10 * a2)) (fun x9 => if z_ix x8 100 x9 then z_let (s x8 x9) (fun x10 => some (vI x10, s)) else none)) else none) else none) else none) else none) else none) else none) else none) else none
theorem gX12_lettersOf {l : Launch} {K : z_K} (hst : l.stackTraces = false) (fu : Nat) (s : z_M) (a0 : Int) (a1 : Int) (a2 : Int) : z_D l K mX12_lettersOf 0 0 0 0 [vR a0, vI a1, vI a2] s (fX12_lettersOf fu s a0 a1 a2) := by
  refine z_D_of (lv := [vR a0, vI a1, vI a2]) hst z_mX12_lettersOf rfl ?_ (Nat.le_of_ble_eq_true rfl) rfl
  unfold fX12_lettersOf
  refine G_aload_n (x := a0) (pc := 0) dX12_lettersOf_0 rfl ?_
  refine G_getR (j := 18) (pc := 1) dX12_lettersOf_1 rfl z_CLX12 (by decide) z_wX12_51 (by decide) (fun x1 => ?_)
  refine G_iconst (pc := 4) dX12_lettersOf_4 ?_
  refine G_aald105 (pc := 5) dX12_lettersOf_5 (fun x2 => ?_)
  refine G_aload_n (x := a0) (pc := 6) dX12_lettersOf_6 rfl ?_
  refine G_getR (j := 15) (pc := 7) dX12_lettersOf_7 rfl z_CLX12 (by decide) z_wX12_40 (by decide) (fun x3 => ?_)
  refine G_iconst (pc := 10) dX12_lettersOf_10 ?_
  refine G_aald103 (pc := 11) dX12_lettersOf_11 (fun x4 => ?_)
  refine G_aload_n (x := a0) (pc := 12) dX12_lettersOf_12 rfl ?_
  refine G_getR (j := 22) (pc := 13) dX12_lettersOf_13 rfl z_CLX12 (by decide) z_wX12_57 (by decide) (fun x5 => ?_)
  refine G_iload_n (x := a1) (pc := 16) dX12_lettersOf_16 rfl ?_
  refine G_iald (pc := 17) dX12_lettersOf_17 (fun x6 => ?_)
  refine G_iald (pc := 18) dX12_lettersOf_18 (fun x7 => ?_)
  refine G_aald103 (pc := 19) dX12_lettersOf_19 (fun x8 => ?_)
  refine G_bipush (pc := 20) dX12_lettersOf_20 ?_
  refine G_iload_n (x := a2) (pc := 22) dX12_lettersOf_22 rfl ?_
  refine G_imul (pc := 23) dX12_lettersOf_23 (fun x9 => ?_)
  refine G_iald (pc := 24) dX12_lettersOf_24 (fun x10 => ?_)
  exact G_iret (pc := 25) dX12_lettersOf_25
def fX12_laysBlocks_L2 (fu : Nat) (a0 : Int) (a1 : Int) (a2 : Int) : Nat → z_M → Int → (z_M → z_O) → z_O
  | 0, _, _, _ => none
  | F + 1, s, a3, k => if (a2 : Int) < a3 then (k s) else (if z_ob a0 12 then z_let (z_gr a0 30) (fun x1 => if z_ix x1 100 a3 then z_let (z_up s x1 a3 0) (fun s2 => if z_ob a0 12 then z_let (z_gr a0 31) (fun x3 => if z_ix x3 100 a3 then z_let (z_up s2 x3 a3 0) (fun s4 => if z_ob a0 12 then z_let (z_gr a0 32) (fun x5 => if z_ix x5 100 a3 then z_let (z_up s4 x5 a3 0) (fun s6 => if z_ob a0 12 then z_let (z_gr a0 28) (fun x7 => if z_ix x7 100 a3 then z_let (z_up s6 x7 a3 0) (fun s8 => if z_ob a0 12 then z_let (z_gr a0 29) (fun x9 => if z_ix x9 100 a3 then z_let (z_up s8 x9 a3 0) (fun s10 => z_let (z_w (a3 + 1)) (fun x11 => fX12_laysBlocks_L2 fu a0 a1 a2 F s10 x11 k)) else none) else none) else none) else none) else none) else none) else none) else none) else none) else none)
theorem gX12_laysBlocks_L2 {l : Launch} {K : z_K} (hst : l.stackTraces = false) (fu : Nat) (a0 : Int) (a1 : Int) (a2 : Int) (k : z_M → z_O) (hk : ∀ (s : z_M), G l K mX12_laysBlocks 1 22 0 0 48 [vR a0, vI a1, vI a2, vU, vU, vU, vU, vU] [] s (k s)) : ∀ (F : Nat) (s : z_M) (a3 : Int), G l K mX12_laysBlocks 1 22 0 0 2 [vR a0, vI a1, vI a2, vI a3, vU, vU, vU, vU] [] s (fX12_laysBlocks_L2 fu a0 a1 a2 F s a3 k) := by
  intro F
  induction F with
  | zero => exact fun s a3 h => absurd rfl h
  | succ F ih =>
    intro s a3
    rw [fX12_laysBlocks_L2]
    refine G_iload_n (x := a3) (pc := 2) dX12_laysBlocks_2 rfl ?_
    refine G_iload_n (x := a2) (pc := 3) dX12_laysBlocks_3 rfl ?_
    refine G_icmp_gt (tgt := 48) (pc := 4) dX12_laysBlocks_4 ?_ ?_
    · refine G_fg (lv2 := [vR a0, vI a1, vI a2, vU, vU, vU, vU, vU]) ⟨Or.inr rfl, Or.inr rfl, Or.inr rfl, Or.inl rfl, Or.inl rfl, Or.inl rfl, Or.inl rfl, Or.inl rfl, trivial⟩ ?_
      exact hk s
    · refine G_aload_n (x := a0) (pc := 7) dX12_laysBlocks_7 rfl ?_
      refine G_getR (j := 30) (pc := 8) dX12_laysBlocks_8 rfl z_CLX12 (by decide) z_wX12_81 (by decide) (fun x1 => ?_)
      refine G_iload_n (x := a3) (pc := 11) dX12_laysBlocks_11 rfl ?_
      refine G_iconst (pc := 12) dX12_laysBlocks_12 ?_
      refine G_iast (pc := 13) dX12_laysBlocks_13 (fun s2 => ?_)
      refine G_aload_n (x := a0) (pc := 14) dX12_laysBlocks_14 rfl ?_
      refine G_getR (j := 31) (pc := 15) dX12_laysBlocks_15 rfl z_CLX12 (by decide) z_wX12_84 (by decide) (fun x3 => ?_)
      refine G_iload_n (x := a3) (pc := 18) dX12_laysBlocks_18 rfl ?_
      refine G_iconst (pc := 19) dX12_laysBlocks_19 ?_
      refine G_iast (pc := 20) dX12_laysBlocks_20 (fun s4 => ?_)
      refine G_aload_n (x := a0) (pc := 21) dX12_laysBlocks_21 rfl ?_
      refine G_getR (j := 32) (pc := 22) dX12_laysBlocks_22 rfl z_CLX12 (by decide) z_wX12_87 (by decide) (fun x5 => ?_)
      refine G_iload_n (x := a3) (pc := 25) dX12_laysBlocks_25 rfl ?_
      refine G_iconst (pc := 26) dX12_laysBlocks_26 ?_
      refine G_iast (pc := 27) dX12_laysBlocks_27 (fun s6 => ?_)
      refine G_aload_n (x := a0) (pc := 28) dX12_laysBlocks_28 rfl ?_
      refine G_getR (j := 28) (pc := 29) dX12_laysBlocks_29 rfl z_CLX12 (by decide) z_wX12_75 (by decide) (fun x7 => ?_)
      refine G_iload_n (x := a3) (pc := 32) dX12_laysBlocks_32 rfl ?_
      refine G_iconst (pc := 33) dX12_laysBlocks_33 ?_
      refine G_iast (pc := 34) dX12_laysBlocks_34 (fun s8 => ?_)
      refine G_aload_n (x := a0) (pc := 35) dX12_laysBlocks_35 rfl ?_
      refine G_getR (j := 29) (pc := 36) dX12_laysBlocks_36 rfl z_CLX12 (by decide) z_wX12_78 (by decide) (fun x9 => ?_)
      refine G_iload_n (x := a3) (pc := 39) dX12_laysBlocks_39 rfl ?_
      refine G_iconst (pc := 40) dX12_laysBlocks_40 ?_
      refine G_iast (pc := 41) dX12_laysBlocks_41 (fun s10 => ?_)
      refine G_iinc (x := a3) (g := fun x11 => [vR a0, vI a1, vI a2, vI x11, vU, vU, vU, vU]) (pc := 42) dX12_laysBlocks_42 rfl (fun _ => rfl) (fun x11 => ?_)
      refine G_goto (tgt := 2) (pc := 45) dX12_laysBlocks_45 ?_
      exact ih s10 x11
def fX12_laysBlocks_L84 (fu : Nat) (a0 : Int) (a2 : Int) (a3 : Int) : Nat → z_M → Int → Int → Int → Int → (z_M → Int → Int → Int → Int → z_O) → z_O
  | 0, _, _, _, _, _, _ => none
  | F + 1, s, a4, a5, a6, a7, k => z_let (z_w (a3 + a4)) (fun x15 => if (a2 : Int) < x15 then (k s a4 a5 a6 a7) else (z_let (z_w (a3 + a4)) (fun x16 => if z_ob a0 12 then z_bI (fX12_group fu s a0 x16) (fun x18 s17 => if z_ob a0 12 then z_bI (fX12_group fu s17 a0 a3) (fun x20 s19 => if (x18 : Int) ≠ x20 then (k s19 a4 a5 a6 a7) else (z_let (z_w (a3 + a4)) (fun x21 => if z_ob a0 12 then z_bI (fX12_lettersOf fu s19 a0 x21 0) (fun x23 s22 => z_let (z_w (a5 + x23)) (fun x24 => z_let (z_w (a3 + a4)) (fun x25 => if z_ob a0 12 then z_bI (fX12_lettersOf fu s22 a0 x25 1) (fun x27 s26 => z_let (z_w (a6 + x27)) (fun x28 => if z_ob a0 12 then z_let (z_gr a0 25) (fun x29 => z_let (z_w (a3 + a4)) (fun x30 => if z_ix x29 100 x30 then z_let (s26 x29 x30) (fun x31 => z_let (z_w (a7 + x31)) (fun x32 => z_let (z_w (a4 + 1)) (fun x33 => fX12_laysBlocks_L84 fu a0 a2 a3 F s26 x33 x24 x28 x32 k))) else none)) else none)) else none))) else none))) else none) else none)))
theorem gX12_laysBlocks_L84 {l : Launch} {K : z_K} (hst : l.stackTraces = false) (fu : Nat) (a0 : Int) (a2 : Int) (a3 : Int) (k : z_M → Int → Int → Int → Int → z_O) (hk : ∀ (s : z_M) (a4 : Int) (a5 : Int) (a6 : Int) (a7 : Int), G l K mX12_laysBlocks 1 22 0 0 156 [vR a0, vU, vI a2, vI a3, vI a4, vI a5, vI a6, vI a7] [] s (k s a4 a5 a6 a7)) : ∀ (F : Nat) (s : z_M) (a4 : Int) (a5 : Int) (a6 : Int) (a7 : Int), G l K mX12_laysBlocks 1 22 0 0 84 [vR a0, vU, vI a2, vI a3, vI a4, vI a5, vI a6, vI a7] [] s (fX12_laysBlocks_L84 fu a0 a2 a3 F s a4 a5 a6 a7 k) := by
  intro F
  induction F with
  | zero => exact fun s a4 a5 a6 a7 h => absurd rfl h
  | succ F ih =>
    intro s a4 a5 a6 a7
    rw [fX12_laysBlocks_L84]
    refine G_iload_n (x := a3) (pc := 84) dX12_laysBlocks_84 rfl ?_
    refine G_iload (x := a4) (pc := 85) dX12_laysBlocks_85 rfl ?_
    refine G_iadd (pc := 87) dX12_laysBlocks_87 (fun x15 => ?_)
    refine G_iload_n (x := a2) (pc := 88) dX12_laysBlocks_88 rfl ?_
    refine G_icmp_gt (tgt := 156) (pc := 89) dX12_laysBlocks_89 ?_ ?_
    · exact hk s a4 a5 a6 a7
    · refine G_aload_n (x := a0) (pc := 92) dX12_laysBlocks_92 rfl ?_
      refine G_iload_n (x := a3) (pc := 93) dX12_laysBlocks_93 rfl ?_
      refine G_iload (x := a4) (pc := 94) dX12_laysBlocks_94 rfl ?_
      refine G_iadd (pc := 96) dX12_laysBlocks_96 (fun x16 => ?_)
      refine G_callVI (as := [vI x16]) (st := []) (c := 12) (bc2 := 0) (bs2 := 0) (pc := 97) dX12_laysBlocks_97 z_mX12_group z_vX12_group z_wX12_288 (gX12_group hst fu s a0 x16) rfl rfl (by decide) rfl rfl ⟨by decide, by decide, by decide, by decide, Nat.le_of_ble_eq_true rfl⟩ rfl (fun x18 s17 => ?_)
      refine G_aload_n (x := a0) (pc := 100) dX12_laysBlocks_100 rfl ?_
      refine G_iload_n (x := a3) (pc := 101) dX12_laysBlocks_101 rfl ?_
      refine G_callVI (as := [vI a3]) (st := [vI x18]) (c := 12) (bc2 := 0) (bs2 := 0) (pc := 102) dX12_laysBlocks_102 z_mX12_group z_vX12_group z_wX12_288 (gX12_group hst fu s17 a0 a3) rfl rfl (by decide) rfl rfl ⟨by decide, by decide, by decide, by decide, Nat.le_of_ble_eq_true rfl⟩ rfl (fun x20 s19 => ?_)
      refine G_icmp_ne (tgt := 156) (pc := 105) dX12_laysBlocks_105 ?_ ?_
      · exact hk s19 a4 a5 a6 a7
      · refine G_iload (x := a5) (pc := 108) dX12_laysBlocks_108 rfl ?_
        refine G_aload_n (x := a0) (pc := 110) dX12_laysBlocks_110 rfl ?_
        refine G_iload_n (x := a3) (pc := 111) dX12_laysBlocks_111 rfl ?_
        refine G_iload (x := a4) (pc := 112) dX12_laysBlocks_112 rfl ?_
        refine G_iadd (pc := 114) dX12_laysBlocks_114 (fun x21 => ?_)
        refine G_iconst (pc := 115) dX12_laysBlocks_115 ?_
        refine G_callVI (as := [vI x21, vI 0]) (st := [vI a5]) (c := 12) (bc2 := 0) (bs2 := 0) (pc := 116) dX12_laysBlocks_116 z_mX12_lettersOf z_vX12_lettersOf z_wX12_291 (gX12_lettersOf hst fu s19 a0 x21 0) rfl rfl (by decide) rfl rfl ⟨by decide, by decide, by decide, by decide, Nat.le_of_ble_eq_true rfl⟩ rfl (fun x23 s22 => ?_)
        refine G_iadd (pc := 119) dX12_laysBlocks_119 (fun x24 => ?_)
        refine G_istore (lv' := [vR a0, vU, vI a2, vI a3, vI a4, vI x24, vI a6, vI a7]) (pc := 120) dX12_laysBlocks_120 rfl ?_
        refine G_iload (x := a6) (pc := 122) dX12_laysBlocks_122 rfl ?_
        refine G_aload_n (x := a0) (pc := 124) dX12_laysBlocks_124 rfl ?_
        refine G_iload_n (x := a3) (pc := 125) dX12_laysBlocks_125 rfl ?_
        refine G_iload (x := a4) (pc := 126) dX12_laysBlocks_126 rfl ?_
        refine G_iadd (pc := 128) dX12_laysBlocks_128 (fun x25 => ?_)
        refine G_iconst (pc := 129) dX12_laysBlocks_129 ?_
        refine G_callVI (as := [vI x25, vI 1]) (st := [vI a6]) (c := 12) (bc2 := 0) (bs2 := 0) (pc := 130) dX12_laysBlocks_130 z_mX12_lettersOf z_vX12_lettersOf z_wX12_291 (gX12_lettersOf hst fu s22 a0 x25 1) rfl rfl (by decide) rfl rfl ⟨by decide, by decide, by decide, by decide, Nat.le_of_ble_eq_true rfl⟩ rfl (fun x27 s26 => ?_)
        refine G_iadd (pc := 133) dX12_laysBlocks_133 (fun x28 => ?_)
        refine G_istore (lv' := [vR a0, vU, vI a2, vI a3, vI a4, vI x24, vI x28, vI a7]) (pc := 134) dX12_laysBlocks_134 rfl ?_
        refine G_iload (x := a7) (pc := 136) dX12_laysBlocks_136 rfl ?_
        refine G_aload_n (x := a0) (pc := 138) dX12_laysBlocks_138 rfl ?_
        refine G_getR (j := 25) (pc := 139) dX12_laysBlocks_139 rfl z_CLX12 (by decide) z_wX12_66 (by decide) (fun x29 => ?_)
        refine G_iload_n (x := a3) (pc := 142) dX12_laysBlocks_142 rfl ?_
        refine G_iload (x := a4) (pc := 143) dX12_laysBlocks_143 rfl ?_
        refine G_iadd (pc := 145) dX12_laysBlocks_145 (fun x30 => ?_)
        refine G_iald (pc := 146) dX12_laysBlocks_146 (fun x31 => ?_)
        refine G_iadd (pc := 147) dX12_laysBlocks_147 (fun x32 => ?_)
        refine G_istore (lv' := [vR a0, vU, vI a2, vI a3, vI a4, vI x24, vI x28, vI x32]) (pc := 148) dX12_laysBlocks_148 rfl ?_
        refine G_iinc (x := a4) (g := fun x33 => [vR a0, vU, vI a2, vI a3, vI x33, vI x24, vI x28, vI x32]) (pc := 150) dX12_laysBlocks_150 rfl (fun _ => rfl) (fun x33 => ?_)
        refine G_goto (tgt := 84) (pc := 153) dX12_laysBlocks_153 ?_
        exact ih s26 x33 x24 x28 x32
def fX12_laysBlocks_J156 (fu : Nat) (s : z_M) (a0 : Int) (a2 : Int) (a3 : Int) (a4 : Int) (a5 : Int) (a6 : Int) (a7 : Int) (r : z_M → Int → z_O) (k : z_M → z_O) : z_O := if z_ob a0 12 then z_let (z_gr a0 30) (fun x39 => if z_ix x39 100 a3 then z_let (z_up s x39 a3 a4) (fun s40 => if z_ob a0 12 then z_let (z_gr a0 34) (fun x41 => if z_ix x41 100 a3 then z_let (z_up s40 x41 a3 a7) (fun s42 => if z_ob a0 12 then z_let (z_gr a0 33) (fun x43 => z_bI (fX12_more fu s42 a5 a6) (fun x45 s44 => z_let (z_w (6 * x45)) (fun x46 => z_let (z_w (x46 - a7)) (fun x47 => z_bI (fX12_more fu s44 0 x47) (fun x49 s48 => if z_ix x43 100 a3 then z_let (z_up s48 x43 a3 x49) (fun s50 => if z_ob a0 12 then z_let (z_gr a0 31) (fun x51 => if z_ob a0 12 then z_let (z_gr a0 33) (fun x52 => if z_ix x52 100 a3 then z_let (s50 x52 a3) (fun x53 => if 2 ≠ 0 then z_let (z_w (Int.tdiv x53 2)) (fun x54 => if z_ix x51 100 a3 then z_let (z_up s50 x51 a3 x54) (fun s55 => if z_ob a0 12 then z_let (z_gr a0 32) (fun x56 => z_let (z_w (a3 + a4)) (fun x57 => z_let (z_w (x57 - 1)) (fun x58 => if z_ob a0 12 then z_let (z_gr a0 33) (fun x59 => if z_ix x59 100 a3 then z_let (s55 x59 a3) (fun x60 => if z_ob a0 12 then z_let (z_gr a0 33) (fun x61 => if z_ix x61 100 a3 then z_let (s55 x61 a3) (fun x62 => if 2 ≠ 0 then z_let (z_w (Int.tdiv x62 2)) (fun x63 => z_let (z_w (x60 - x63)) (fun x64 => if z_ix x56 100 x58 then z_let (z_up s55 x56 x58 x64) (fun s65 => z_let (z_w (a3 + a4)) (fun x66 => r s65 x66)) else none)) else none) else none) else none) else none) else none))) else none) else none) else none) else none) else none) else none) else none))))) else none) else none) else none) else none) else none
theorem gX12_laysBlocks_J156 {l : Launch} {K : z_K} (hst : l.stackTraces = false) (fu : Nat) (s : z_M) (a0 : Int) (a2 : Int) (a3 : Int) (a4 : Int) (a5 : Int) (a6 : Int) (a7 : Int) (r : z_M → Int → z_O) (k : z_M → z_O) (hr : ∀ (s : z_M) (a3 : Int), G l K mX12_laysBlocks 1 22 0 0 50 [vR a0, vU, vI a2, vI a3, vU, vU, vU, vU] [] s (r s a3)) (hk : ∀ (s : z_M), G l K mX12_laysBlocks 1 22 0 0 243 [vU, vU, vU, vU, vU, vU, vU, vU] [] s (k s)) : G l K mX12_laysBlocks 1 22 0 0 156 [vR a0, vU, vI a2, vI a3, vI a4, vI a5, vI a6, vI a7] [] s (fX12_laysBlocks_J156 fu s a0 a2 a3 a4 a5 a6 a7 r k) := by
  unfold fX12_laysBlocks_J156
  refine G_aload_n (x := a0) (pc := 156) dX12_laysBlocks_156 rfl ?_
  refine G_getR (j := 30) (pc := 157) dX12_laysBlocks_157 rfl z_CLX12 (by decide) z_wX12_81 (by decide) (fun x39 => ?_)
  refine G_iload_n (x := a3) (pc := 160) dX12_laysBlocks_160 rfl ?_
  refine G_iload (x := a4) (pc := 161) dX12_laysBlocks_161 rfl ?_
  refine G_iast (pc := 163) dX12_laysBlocks_163 (fun s40 => ?_)
  refine G_aload_n (x := a0) (pc := 164) dX12_laysBlocks_164 rfl ?_
  refine G_getR (j := 34) (pc := 165) dX12_laysBlocks_165 rfl z_CLX12 (by decide) z_wX12_93 (by decide) (fun x41 => ?_)
  refine G_iload_n (x := a3) (pc := 168) dX12_laysBlocks_168 rfl ?_
  refine G_iload (x := a7) (pc := 169) dX12_laysBlocks_169 rfl ?_
  refine G_iast (pc := 171) dX12_laysBlocks_171 (fun s42 => ?_)
  refine G_aload_n (x := a0) (pc := 172) dX12_laysBlocks_172 rfl ?_
  refine G_getR (j := 33) (pc := 173) dX12_laysBlocks_173 rfl z_CLX12 (by decide) z_wX12_90 (by decide) (fun x43 => ?_)
  refine G_iload_n (x := a3) (pc := 176) dX12_laysBlocks_176 rfl ?_
  refine G_iconst (pc := 177) dX12_laysBlocks_177 ?_
  refine G_bipush (pc := 178) dX12_laysBlocks_178 ?_
  refine G_iload (x := a5) (pc := 180) dX12_laysBlocks_180 rfl ?_
  refine G_iload (x := a6) (pc := 182) dX12_laysBlocks_182 rfl ?_
  refine G_callSI (as := [vI a5, vI a6]) (st := [vI 6, vI 0, vI a3, vR x43]) (bc2 := 0) (bs2 := 0) (pc := 184) dX12_laysBlocks_184 z_mX12_more z_sX12_more z_wX12_256 (gX12_more hst fu s42 a5 a6) rfl rfl ⟨by decide, by decide, by decide, by decide, Nat.le_of_ble_eq_true rfl⟩ rfl (fun x45 s44 => ?_)
  refine G_imul (pc := 187) dX12_laysBlocks_187 (fun x46 => ?_)
  refine G_iload (x := a7) (pc := 188) dX12_laysBlocks_188 rfl ?_
  refine G_isub (pc := 190) dX12_laysBlocks_190 (fun x47 => ?_)
  refine G_callSI (as := [vI 0, vI x47]) (st := [vI a3, vR x43]) (bc2 := 0) (bs2 := 0) (pc := 191) dX12_laysBlocks_191 z_mX12_more z_sX12_more z_wX12_256 (gX12_more hst fu s44 0 x47) rfl rfl ⟨by decide, by decide, by decide, by decide, Nat.le_of_ble_eq_true rfl⟩ rfl (fun x49 s48 => ?_)
  refine G_iast (pc := 194) dX12_laysBlocks_194 (fun s50 => ?_)
  refine G_aload_n (x := a0) (pc := 195) dX12_laysBlocks_195 rfl ?_
  refine G_getR (j := 31) (pc := 196) dX12_laysBlocks_196 rfl z_CLX12 (by decide) z_wX12_84 (by decide) (fun x51 => ?_)
  refine G_iload_n (x := a3) (pc := 199) dX12_laysBlocks_199 rfl ?_
  refine G_aload_n (x := a0) (pc := 200) dX12_laysBlocks_200 rfl ?_
  refine G_getR (j := 33) (pc := 201) dX12_laysBlocks_201 rfl z_CLX12 (by decide) z_wX12_90 (by decide) (fun x52 => ?_)
  refine G_iload_n (x := a3) (pc := 204) dX12_laysBlocks_204 rfl ?_
  refine G_iald (pc := 205) dX12_laysBlocks_205 (fun x53 => ?_)
  refine G_iconst (pc := 206) dX12_laysBlocks_206 ?_
  refine G_idiv (pc := 207) dX12_laysBlocks_207 (fun x54 => ?_)
  refine G_iast (pc := 208) dX12_laysBlocks_208 (fun s55 => ?_)
  refine G_aload_n (x := a0) (pc := 209) dX12_laysBlocks_209 rfl ?_
  refine G_getR (j := 32) (pc := 210) dX12_laysBlocks_210 rfl z_CLX12 (by decide) z_wX12_87 (by decide) (fun x56 => ?_)
  refine G_iload_n (x := a3) (pc := 213) dX12_laysBlocks_213 rfl ?_
  refine G_iload (x := a4) (pc := 214) dX12_laysBlocks_214 rfl ?_
  refine G_iadd (pc := 216) dX12_laysBlocks_216 (fun x57 => ?_)
  refine G_iconst (pc := 217) dX12_laysBlocks_217 ?_
  refine G_isub (pc := 218) dX12_laysBlocks_218 (fun x58 => ?_)
  refine G_aload_n (x := a0) (pc := 219) dX12_laysBlocks_219 rfl ?_
  refine G_getR (j := 33) (pc := 220) dX12_laysBlocks_220 rfl z_CLX12 (by decide) z_wX12_90 (by decide) (fun x59 => ?_)
  refine G_iload_n (x := a3) (pc := 223) dX12_laysBlocks_223 rfl ?_
  refine G_iald (pc := 224) dX12_laysBlocks_224 (fun x60 => ?_)
  refine G_aload_n (x := a0) (pc := 225) dX12_laysBlocks_225 rfl ?_
  refine G_getR (j := 33) (pc := 226) dX12_laysBlocks_226 rfl z_CLX12 (by decide) z_wX12_90 (by decide) (fun x61 => ?_)
  refine G_iload_n (x := a3) (pc := 229) dX12_laysBlocks_229 rfl ?_
  refine G_iald (pc := 230) dX12_laysBlocks_230 (fun x62 => ?_)
  refine G_iconst (pc := 231) dX12_laysBlocks_231 ?_
  refine G_idiv (pc := 232) dX12_laysBlocks_232 (fun x63 => ?_)
  refine G_isub (pc := 233) dX12_laysBlocks_233 (fun x64 => ?_)
  refine G_iast (pc := 234) dX12_laysBlocks_234 (fun s65 => ?_)
  refine G_iload_n (x := a3) (pc := 235) dX12_laysBlocks_235 rfl ?_
  refine G_iload (x := a4) (pc := 236) dX12_laysBlocks_236 rfl ?_
  refine G_iadd (pc := 238) dX12_laysBlocks_238 (fun x66 => ?_)
  refine G_istore_n (lv' := [vR a0, vU, vI a2, vI x66, vI a4, vI a5, vI a6, vI a7]) (pc := 239) dX12_laysBlocks_239 rfl ?_
  refine G_goto (tgt := 50) (pc := 240) dX12_laysBlocks_240 ?_
  refine G_fg (lv2 := [vR a0, vU, vI a2, vI x66, vU, vU, vU, vU]) ⟨Or.inr rfl, Or.inl rfl, Or.inr rfl, Or.inr rfl, Or.inl rfl, Or.inl rfl, Or.inl rfl, Or.inl rfl, trivial⟩ ?_
  exact hr s65 x66
def fX12_laysBlocks_L50 (fu : Nat) (a0 : Int) (a2 : Int) : Nat → z_M → Int → (z_M → z_O) → z_O
  | 0, _, _, _ => none
  | F + 1, s, a3, k => if (a2 : Int) < a3 then (k s) else (if z_ob a0 12 then z_let (z_gr a0 21) (fun x13 => if z_ix x13 100 a3 then z_let (s x13 a3) (fun x14 => if (x14 : Int) = 7 then (fX12_laysBlocks_L84 fu a0 a2 a3 fu s 0 0 0 0 (fun s34 x35 x36 x37 x38 => fX12_laysBlocks_J156 fu s34 a0 a2 a3 x35 x36 x37 x38 (fun w v3 => fX12_laysBlocks_L50 fu a0 a2 F w v3 k) k)) else (z_let (z_w (a3 + 1)) (fun x67 => fX12_laysBlocks_L50 fu a0 a2 F s x67 k))) else none) else none)
theorem gX12_laysBlocks_L50 {l : Launch} {K : z_K} (hst : l.stackTraces = false) (fu : Nat) (a0 : Int) (a2 : Int) (k : z_M → z_O) (hk : ∀ (s : z_M), G l K mX12_laysBlocks 1 22 0 0 243 [vU, vU, vU, vU, vU, vU, vU, vU] [] s (k s)) : ∀ (F : Nat) (s : z_M) (a3 : Int), G l K mX12_laysBlocks 1 22 0 0 50 [vR a0, vU, vI a2, vI a3, vU, vU, vU, vU] [] s (fX12_laysBlocks_L50 fu a0 a2 F s a3 k) := by
  intro F
  induction F with
  | zero => exact fun s a3 h => absurd rfl h
  | succ F ih =>
    intro s a3
    rw [fX12_laysBlocks_L50]
    refine G_iload_n (x := a3) (pc := 50) dX12_laysBlocks_50 rfl ?_
    refine G_iload_n (x := a2) (pc := 51) dX12_laysBlocks_51 rfl ?_
    refine G_icmp_gt (tgt := 243) (pc := 52) dX12_laysBlocks_52 ?_ ?_
    · refine G_fg (lv2 := [vU, vU, vU, vU, vU, vU, vU, vU]) ⟨Or.inl rfl, Or.inl rfl, Or.inl rfl, Or.inl rfl, Or.inl rfl, Or.inl rfl, Or.inl rfl, Or.inl rfl, trivial⟩ ?_
      exact hk s
    · refine G_aload_n (x := a0) (pc := 55) dX12_laysBlocks_55 rfl ?_
      refine G_getR (j := 21) (pc := 56) dX12_laysBlocks_56 rfl z_CLX12 (by decide) z_wX12_54 (by decide) (fun x13 => ?_)
      refine G_iload_n (x := a3) (pc := 59) dX12_laysBlocks_59 rfl ?_
      refine G_iald (pc := 60) dX12_laysBlocks_60 (fun x14 => ?_)
      refine G_bipush (pc := 61) dX12_laysBlocks_61 ?_
      refine G_icmp_eq (tgt := 72) (pc := 63) dX12_laysBlocks_63 ?_ ?_
      · refine G_iconst (pc := 72) dX12_laysBlocks_72 ?_
        refine G_istore (lv' := [vR a0, vU, vI a2, vI a3, vI 0, vU, vU, vU]) (pc := 73) dX12_laysBlocks_73 rfl ?_
        refine G_iconst (pc := 75) dX12_laysBlocks_75 ?_
        refine G_istore (lv' := [vR a0, vU, vI a2, vI a3, vI 0, vI 0, vU, vU]) (pc := 76) dX12_laysBlocks_76 rfl ?_
        refine G_iconst (pc := 78) dX12_laysBlocks_78 ?_
        refine G_istore (lv' := [vR a0, vU, vI a2, vI a3, vI 0, vI 0, vI 0, vU]) (pc := 79) dX12_laysBlocks_79 rfl ?_
        refine G_iconst (pc := 81) dX12_laysBlocks_81 ?_
        refine G_istore (lv' := [vR a0, vU, vI a2, vI a3, vI 0, vI 0, vI 0, vI 0]) (pc := 82) dX12_laysBlocks_82 rfl ?_
        refine gX12_laysBlocks_L84 hst fu a0 a2 a3 _ (fun s34 x35 x36 x37 x38 => ?_) fu s 0 0 0 0
        exact gX12_laysBlocks_J156 hst fu s34 a0 a2 a3 x35 x36 x37 x38 _ _ (fun w v3 => ih w v3) hk
      · refine G_iinc (x := a3) (g := fun x67 => [vR a0, vU, vI a2, vI x67, vU, vU, vU, vU]) (pc := 66) dX12_laysBlocks_66 rfl (fun _ => rfl) (fun x67 => ?_)
        refine G_goto (tgt := 50) (pc := 69) dX12_laysBlocks_69 ?_
        exact ih s x67
def fX12_laysBlocks (fu : Nat) (s : z_M) (a0 : Int) (a1 : Int) (a2 : Int) : z_O := fX12_laysBlocks_L2 fu a0 a1 a2 fu s a1 (fun s12 => fX12_laysBlocks_L50 fu a0 a2 fu s12 a1 (fun s68 => some (vN, s68)))
theorem gX12_laysBlocks {l : Launch} {K : z_K} (hst : l.stackTraces = false) (fu : Nat) (s : z_M) (a0 : Int) (a1 : Int) (a2 : Int) : z_D l K mX12_laysBlocks 1 22 0 0 [vR a0, vI a1, vI a2] s (fX12_laysBlocks fu s a0 a1 a2) := by
  refine z_D_of (lv := [vR a0, vI a1, vI a2, vU, vU, vU, vU, vU]) hst z_mX12_laysBlocks rfl ?_ (Nat.le_of_ble_eq_true rfl) rfl
  unfold fX12_laysBlocks
  refine G_iload_n (x := a1) (pc := 0) dX12_laysBlocks_0 rfl ?_
  refine G_istore_n (lv' := [vR a0, vI a1, vI a2, vI a1, vU, vU, vU, vU]) (pc := 1) dX12_laysBlocks_1 rfl ?_
  refine gX12_laysBlocks_L2 hst fu a0 a1 a2 _ (fun s12 => ?_) fu s a1
  refine G_iload_n (x := a1) (pc := 48) dX12_laysBlocks_48 rfl ?_
  refine G_istore_n (lv' := [vR a0, vI a1, vI a2, vI a1, vU, vU, vU, vU]) (pc := 49) dX12_laysBlocks_49 rfl ?_
  refine G_fg (lv2 := [vR a0, vU, vI a2, vI a1, vU, vU, vU, vU]) ⟨Or.inr rfl, Or.inl rfl, Or.inr rfl, Or.inr rfl, Or.inl rfl, Or.inl rfl, Or.inl rfl, Or.inl rfl, trivial⟩ ?_
  refine gX12_laysBlocks_L50 hst fu a0 a2 _ (fun s68 => ?_) fu s12 a1
  exact G_vret (pc := 243) dX12_laysBlocks_243
def fX12_lends_J29 (fu : Nat) (s : z_M) (a0 : Int) : z_O := if z_ob a0 12 then z_let (z_gr a0 9) (fun x3 => if z_ix x3 100 2 then z_let (s x3 2) (fun x4 => some (vI x4, s)) else none) else none
theorem gX12_lends_J29 {l : Launch} {K : z_K} (hst : l.stackTraces = false) (fu : Nat) (s : z_M) (a0 : Int) : G l K mX12_lends 0 0 0 0 29 [vR a0, vU, vU] [] s (fX12_lends_J29 fu s a0) := by
  unfold fX12_lends_J29
  refine G_aload_n (x := a0) (pc := 29) dX12_lends_29 rfl ?_
  refine G_getR (j := 9) (pc := 30) dX12_lends_30 rfl z_CLX12 (by decide) z_wX12_20 (by decide) (fun x3 => ?_)
  refine G_iconst (pc := 33) dX12_lends_33 ?_
  refine G_iald (pc := 34) dX12_lends_34 (fun x4 => ?_)
  exact G_iret (pc := 35) dX12_lends_35
def fX12_lends_J73 (fu : Nat) (s : z_M) (t0 : Int) : z_O := some (vI t0, s)
theorem gX12_lends_J73 {l : Launch} {K : z_K} (hst : l.stackTraces = false) (fu : Nat) (s : z_M) (t0 : Int) : G l K mX12_lends 0 0 0 0 73 [vU, vU, vU] [vI t0] s (fX12_lends_J73 fu s t0) := by
  unfold fX12_lends_J73
  exact G_iret (pc := 73) dX12_lends_73
def fX12_lends (fu : Nat) (s : z_M) (a0 : Int) (a1 : Int) (a2 : Int) : z_O := if z_ob a0 12 then z_let (z_gr a0 21) (fun x1 => if z_ix x1 100 a1 then z_let (s x1 a1) (fun x2 => if (x2 : Int) = 0 then (fX12_lends_J29 fu s a0) else (if z_ob a0 12 then z_let (z_gr a0 21) (fun x5 => if z_ix x5 100 a1 then z_let (s x5 a1) (fun x6 => if (x6 : Int) = 1 then (fX12_lends_J29 fu s a0) else (if z_ob a0 12 then z_let (z_gr a0 21) (fun x7 => if z_ix x7 100 a1 then z_let (s x7 a1) (fun x8 => if (x8 : Int) ≠ 2 then (if z_ob a0 12 then z_let (z_gr a0 21) (fun x9 => if z_ix x9 100 a1 then z_let (s x9 a1) (fun x10 => if (x10 : Int) ≠ 6 then (if (a2 : Int) = 0 then (if z_ob a0 12 then z_let (z_gr a0 26) (fun x11 => if z_ix x11 100 a1 then z_let (s x11 a1) (fun x12 => fX12_lends_J73 fu s x12) else none) else none) else (if z_ob a0 12 then z_let (z_gr a0 27) (fun x13 => if z_ix x13 100 a1 then z_let (s x13 a1) (fun x14 => fX12_lends_J73 fu s x14) else none) else none)) else (if z_ob a0 12 then z_let (z_gr a0 25) (fun x15 => if z_ix x15 100 a1 then z_let (s x15 a1) (fun x16 => some (vI x16, s)) else none) else none)) else none) else none) else (fX12_lends_J29 fu s a0)) else none) else none)) else none) else none)) else none) else none
theorem gX12_lends {l : Launch} {K : z_K} (hst : l.stackTraces = false) (fu : Nat) (s : z_M) (a0 : Int) (a1 : Int) (a2 : Int) : z_D l K mX12_lends 0 0 0 0 [vR a0, vI a1, vI a2] s (fX12_lends fu s a0 a1 a2) := by
  refine z_D_of (lv := [vR a0, vI a1, vI a2]) hst z_mX12_lends rfl ?_ (Nat.le_of_ble_eq_true rfl) rfl
  unfold fX12_lends
  refine G_aload_n (x := a0) (pc := 0) dX12_lends_0 rfl ?_
  refine G_getR (j := 21) (pc := 1) dX12_lends_1 rfl z_CLX12 (by decide) z_wX12_54 (by decide) (fun x1 => ?_)
  refine G_iload_n (x := a1) (pc := 4) dX12_lends_4 rfl ?_
  refine G_iald (pc := 5) dX12_lends_5 (fun x2 => ?_)
  refine G_if_eq (tgt := 29) (pc := 6) dX12_lends_6 ?_ ?_
  · refine G_fg (lv2 := [vR a0, vU, vU]) ⟨Or.inr rfl, Or.inl rfl, Or.inl rfl, trivial⟩ ?_
    exact gX12_lends_J29 hst fu s a0
  · refine G_aload_n (x := a0) (pc := 9) dX12_lends_9 rfl ?_
    refine G_getR (j := 21) (pc := 10) dX12_lends_10 rfl z_CLX12 (by decide) z_wX12_54 (by decide) (fun x5 => ?_)
    refine G_iload_n (x := a1) (pc := 13) dX12_lends_13 rfl ?_
    refine G_iald (pc := 14) dX12_lends_14 (fun x6 => ?_)
    refine G_iconst (pc := 15) dX12_lends_15 ?_
    refine G_icmp_eq (tgt := 29) (pc := 16) dX12_lends_16 ?_ ?_
    · refine G_fg (lv2 := [vR a0, vU, vU]) ⟨Or.inr rfl, Or.inl rfl, Or.inl rfl, trivial⟩ ?_
      exact gX12_lends_J29 hst fu s a0
    · refine G_aload_n (x := a0) (pc := 19) dX12_lends_19 rfl ?_
      refine G_getR (j := 21) (pc := 20) dX12_lends_20 rfl z_CLX12 (by decide) z_wX12_54 (by decide) (fun x7 => ?_)
      refine G_iload_n (x := a1) (pc := 23) dX12_lends_23 rfl ?_
      refine G_iald (pc := 24) dX12_lends_24 (fun x8 => ?_)
      refine G_iconst (pc := 25) dX12_lends_25 ?_
      refine G_icmp_ne (tgt := 36) (pc := 26) dX12_lends_26 ?_ ?_
      · refine G_aload_n (x := a0) (pc := 36) dX12_lends_36 rfl ?_
        refine G_getR (j := 21) (pc := 37) dX12_lends_37 rfl z_CLX12 (by decide) z_wX12_54 (by decide) (fun x9 => ?_)
        refine G_iload_n (x := a1) (pc := 40) dX12_lends_40 rfl ?_
        refine G_iald (pc := 41) dX12_lends_41 (fun x10 => ?_)
        refine G_bipush (pc := 42) dX12_lends_42 ?_
        refine G_icmp_ne (tgt := 54) (pc := 44) dX12_lends_44 ?_ ?_
        · refine G_iload_n (x := a2) (pc := 54) dX12_lends_54 rfl ?_
          refine G_if_eq (tgt := 67) (pc := 55) dX12_lends_55 ?_ ?_
          · refine G_aload_n (x := a0) (pc := 67) dX12_lends_67 rfl ?_
            refine G_getR (j := 26) (pc := 68) dX12_lends_68 rfl z_CLX12 (by decide) z_wX12_69 (by decide) (fun x11 => ?_)
            refine G_iload_n (x := a1) (pc := 71) dX12_lends_71 rfl ?_
            refine G_iald (pc := 72) dX12_lends_72 (fun x12 => ?_)
            refine G_fg (lv2 := [vU, vU, vU]) ⟨Or.inl rfl, Or.inl rfl, Or.inl rfl, trivial⟩ ?_
            exact gX12_lends_J73 hst fu s x12
          · refine G_aload_n (x := a0) (pc := 58) dX12_lends_58 rfl ?_
            refine G_getR (j := 27) (pc := 59) dX12_lends_59 rfl z_CLX12 (by decide) z_wX12_72 (by decide) (fun x13 => ?_)
            refine G_iload_n (x := a1) (pc := 62) dX12_lends_62 rfl ?_
            refine G_iald (pc := 63) dX12_lends_63 (fun x14 => ?_)
            refine G_goto (tgt := 73) (pc := 64) dX12_lends_64 ?_
            refine G_fg (lv2 := [vU, vU, vU]) ⟨Or.inl rfl, Or.inl rfl, Or.inl rfl, trivial⟩ ?_
            exact gX12_lends_J73 hst fu s x14
        · refine G_aload_n (x := a0) (pc := 47) dX12_lends_47 rfl ?_
          refine G_getR (j := 25) (pc := 48) dX12_lends_48 rfl z_CLX12 (by decide) z_wX12_66 (by decide) (fun x15 => ?_)
          refine G_iload_n (x := a1) (pc := 51) dX12_lends_51 rfl ?_
          refine G_iald (pc := 52) dX12_lends_52 (fun x16 => ?_)
          exact G_iret (pc := 53) dX12_lends_53
      · refine G_fg (lv2 := [vR a0, vU, vU]) ⟨Or.inr rfl, Or.inl rfl, Or.inl rfl, trivial⟩ ?_
        exact gX12_lends_J29 hst fu s a0
def fX12_mayAhead_J57 (fu : Nat) (s : z_M) (t0 : Int) : z_O := some (vI t0, s)
theorem gX12_mayAhead_J57 {l : Launch} {K : z_K} (hst : l.stackTraces = false) (fu : Nat) (s : z_M) (t0 : Int) : G l K mX12_mayAhead 1 22 0 0 57 [vU, vU, vU, vU, vU] [vI t0] s (fX12_mayAhead_J57 fu s t0) := by
  unfold fX12_mayAhead_J57
  exact G_iret (pc := 57) dX12_mayAhead_57
def fX12_mayAhead_J55 (fu : Nat) (s : z_M) (a4 : Int) : z_O := fX12_mayAhead_J57 fu s a4
theorem gX12_mayAhead_J55 {l : Launch} {K : z_K} (hst : l.stackTraces = false) (fu : Nat) (s : z_M) (a4 : Int) : G l K mX12_mayAhead 1 22 0 0 55 [vU, vU, vU, vU, vI a4] [] s (fX12_mayAhead_J55 fu s a4) := by
  unfold fX12_mayAhead_J55
  refine G_iload (x := a4) (pc := 55) dX12_mayAhead_55 rfl ?_
  refine G_fg (lv2 := [vU, vU, vU, vU, vU]) ⟨Or.inl rfl, Or.inl rfl, Or.inl rfl, Or.inl rfl, Or.inl rfl, trivial⟩ ?_
  exact gX12_mayAhead_J57 hst fu s a4
def fX12_mayAhead (fu : Nat) (s : z_M) (a0 : Int) (a1 : Int) (a2 : Int) (a3 : Int) : z_O := if (a1 : Int) ≠ a2 then (z_let (z_w (a1 - 1)) (fun x1 => if z_ob a0 12 then z_bI (fX12_lends fu s a0 x1 1) (fun x3 s2 => z_let (z_w (a1 - 2)) (fun x4 => if (x4 : Int) < a2 then (fX12_mayAhead_J55 fu s2 x3) else (if z_ob a0 12 then z_let (z_gr a0 21) (fun x5 => z_let (z_w (a1 - 1)) (fun x6 => if z_ix x5 100 x6 then z_let (s2 x5 x6) (fun x7 => if (x7 : Int) = 7 then (fX12_mayAhead_J55 fu s2 x3) else (if z_ob a0 12 then z_let (z_gr a0 32) (fun x8 => z_let (z_w (a1 - 2)) (fun x9 => if z_ix x8 100 x9 then z_let (s2 x8 x9) (fun x10 => if (x10 : Int) ≤ 0 then (fX12_mayAhead_J55 fu s2 x3) else (if 2 ≠ 0 then z_let (z_w (Int.tdiv x3 2)) (fun x11 => fX12_mayAhead_J57 fu s2 x11) else none)) else none)) else none)) else none)) else none))) else none)) else (some (vI 0, s))
theorem gX12_mayAhead {l : Launch} {K : z_K} (hst : l.stackTraces = false) (fu : Nat) (s : z_M) (a0 : Int) (a1 : Int) (a2 : Int) (a3 : Int) : z_D l K mX12_mayAhead 1 22 0 0 [vR a0, vI a1, vI a2, vI a3] s (fX12_mayAhead fu s a0 a1 a2 a3) := by
  refine z_D_of (lv := [vR a0, vI a1, vI a2, vI a3, vU]) hst z_mX12_mayAhead rfl ?_ (Nat.le_of_ble_eq_true rfl) rfl
  unfold fX12_mayAhead
  refine G_iload_n (x := a1) (pc := 0) dX12_mayAhead_0 rfl ?_
  refine G_iload_n (x := a2) (pc := 1) dX12_mayAhead_1 rfl ?_
  refine G_icmp_ne (tgt := 7) (pc := 2) dX12_mayAhead_2 ?_ ?_
  · refine G_aload_n (x := a0) (pc := 7) dX12_mayAhead_7 rfl ?_
    refine G_iload_n (x := a1) (pc := 8) dX12_mayAhead_8 rfl ?_
    refine G_iconst (pc := 9) dX12_mayAhead_9 ?_
    refine G_isub (pc := 10) dX12_mayAhead_10 (fun x1 => ?_)
    refine G_iconst (pc := 11) dX12_mayAhead_11 ?_
    refine G_callVI (as := [vI x1, vI 1]) (st := []) (c := 12) (bc2 := 0) (bs2 := 0) (pc := 12) dX12_mayAhead_12 z_mX12_lends z_vX12_lends z_wX12_294 (gX12_lends hst fu s a0 x1 1) rfl rfl (by decide) rfl rfl ⟨by decide, by decide, by decide, by decide, Nat.le_of_ble_eq_true rfl⟩ rfl (fun x3 s2 => ?_)
    refine G_istore (lv' := [vR a0, vI a1, vI a2, vI a3, vI x3]) (pc := 15) dX12_mayAhead_15 rfl ?_
    refine G_iload_n (x := a1) (pc := 17) dX12_mayAhead_17 rfl ?_
    refine G_iconst (pc := 18) dX12_mayAhead_18 ?_
    refine G_isub (pc := 19) dX12_mayAhead_19 (fun x4 => ?_)
    refine G_iload_n (x := a2) (pc := 20) dX12_mayAhead_20 rfl ?_
    refine G_icmp_lt (tgt := 55) (pc := 21) dX12_mayAhead_21 ?_ ?_
    · refine G_fg (lv2 := [vU, vU, vU, vU, vI x3]) ⟨Or.inl rfl, Or.inl rfl, Or.inl rfl, Or.inl rfl, Or.inr rfl, trivial⟩ ?_
      exact gX12_mayAhead_J55 hst fu s2 x3
    · refine G_aload_n (x := a0) (pc := 24) dX12_mayAhead_24 rfl ?_
      refine G_getR (j := 21) (pc := 25) dX12_mayAhead_25 rfl z_CLX12 (by decide) z_wX12_54 (by decide) (fun x5 => ?_)
      refine G_iload_n (x := a1) (pc := 28) dX12_mayAhead_28 rfl ?_
      refine G_iconst (pc := 29) dX12_mayAhead_29 ?_
      refine G_isub (pc := 30) dX12_mayAhead_30 (fun x6 => ?_)
      refine G_iald (pc := 31) dX12_mayAhead_31 (fun x7 => ?_)
      refine G_bipush (pc := 32) dX12_mayAhead_32 ?_
      refine G_icmp_eq (tgt := 55) (pc := 34) dX12_mayAhead_34 ?_ ?_
      · refine G_fg (lv2 := [vU, vU, vU, vU, vI x3]) ⟨Or.inl rfl, Or.inl rfl, Or.inl rfl, Or.inl rfl, Or.inr rfl, trivial⟩ ?_
        exact gX12_mayAhead_J55 hst fu s2 x3
      · refine G_aload_n (x := a0) (pc := 37) dX12_mayAhead_37 rfl ?_
        refine G_getR (j := 32) (pc := 38) dX12_mayAhead_38 rfl z_CLX12 (by decide) z_wX12_87 (by decide) (fun x8 => ?_)
        refine G_iload_n (x := a1) (pc := 41) dX12_mayAhead_41 rfl ?_
        refine G_iconst (pc := 42) dX12_mayAhead_42 ?_
        refine G_isub (pc := 43) dX12_mayAhead_43 (fun x9 => ?_)
        refine G_iald (pc := 44) dX12_mayAhead_44 (fun x10 => ?_)
        refine G_if_le (tgt := 55) (pc := 45) dX12_mayAhead_45 ?_ ?_
        · refine G_fg (lv2 := [vU, vU, vU, vU, vI x3]) ⟨Or.inl rfl, Or.inl rfl, Or.inl rfl, Or.inl rfl, Or.inr rfl, trivial⟩ ?_
          exact gX12_mayAhead_J55 hst fu s2 x3
        · refine G_iload (x := x3) (pc := 48) dX12_mayAhead_48 rfl ?_
          refine G_iconst (pc := 50) dX12_mayAhead_50 ?_
          refine G_idiv (pc := 51) dX12_mayAhead_51 (fun x11 => ?_)
          refine G_goto (tgt := 57) (pc := 52) dX12_mayAhead_52 ?_
          refine G_fg (lv2 := [vU, vU, vU, vU, vU]) ⟨Or.inl rfl, Or.inl rfl, Or.inl rfl, Or.inl rfl, Or.inl rfl, trivial⟩ ?_
          exact gX12_mayAhead_J57 hst fu s2 x11
  · refine G_iconst (pc := 5) dX12_mayAhead_5 ?_
    exact G_iret (pc := 6) dX12_mayAhead_6
def fX12_mayBehind_J57 (fu : Nat) (s : z_M) (t0 : Int) : z_O := some (vI t0, s)
theorem gX12_mayBehind_J57 {l : Launch} {K : z_K} (hst : l.stackTraces = false) (fu : Nat) (s : z_M) (t0 : Int) : G l K mX12_mayBehind 1 22 0 0 57 [vU, vU, vU, vU, vU] [vI t0] s (fX12_mayBehind_J57 fu s t0) := by
  unfold fX12_mayBehind_J57
  exact G_iret (pc := 57) dX12_mayBehind_57
def fX12_mayBehind_J55 (fu : Nat) (s : z_M) (a4 : Int) : z_O := fX12_mayBehind_J57 fu s a4
theorem gX12_mayBehind_J55 {l : Launch} {K : z_K} (hst : l.stackTraces = false) (fu : Nat) (s : z_M) (a4 : Int) : G l K mX12_mayBehind 1 22 0 0 55 [vU, vU, vU, vU, vI a4] [] s (fX12_mayBehind_J55 fu s a4) := by
  unfold fX12_mayBehind_J55
  refine G_iload (x := a4) (pc := 55) dX12_mayBehind_55 rfl ?_
  refine G_fg (lv2 := [vU, vU, vU, vU, vU]) ⟨Or.inl rfl, Or.inl rfl, Or.inl rfl, Or.inl rfl, Or.inl rfl, trivial⟩ ?_
  exact gX12_mayBehind_J57 hst fu s a4
def fX12_mayBehind (fu : Nat) (s : z_M) (a0 : Int) (a1 : Int) (a2 : Int) (a3 : Int) : z_O := if (a1 : Int) ≠ a3 then (z_let (z_w (a1 + 1)) (fun x1 => if z_ob a0 12 then z_bI (fX12_lends fu s a0 x1 0) (fun x3 s2 => z_let (z_w (a1 + 2)) (fun x4 => if (a3 : Int) < x4 then (fX12_mayBehind_J55 fu s2 x3) else (if z_ob a0 12 then z_let (z_gr a0 21) (fun x5 => z_let (z_w (a1 + 1)) (fun x6 => if z_ix x5 100 x6 then z_let (s2 x5 x6) (fun x7 => if (x7 : Int) = 7 then (fX12_mayBehind_J55 fu s2 x3) else (if z_ob a0 12 then z_let (z_gr a0 31) (fun x8 => z_let (z_w (a1 + 2)) (fun x9 => if z_ix x8 100 x9 then z_let (s2 x8 x9) (fun x10 => if (x10 : Int) ≤ 0 then (fX12_mayBehind_J55 fu s2 x3) else (if 2 ≠ 0 then z_let (z_w (Int.tdiv x3 2)) (fun x11 => fX12_mayBehind_J57 fu s2 x11) else none)) else none)) else none)) else none)) else none))) else none)) else (some (vI 0, s))
theorem gX12_mayBehind {l : Launch} {K : z_K} (hst : l.stackTraces = false) (fu : Nat) (s : z_M) (a0 : Int) (a1 : Int) (a2 : Int) (a3 : Int) : z_D l K mX12_mayBehind 1 22 0 0 [vR a0, vI a1, vI a2, vI a3] s (fX12_mayBehind fu s a0 a1 a2 a3) := by
  refine z_D_of (lv := [vR a0, vI a1, vI a2, vI a3, vU]) hst z_mX12_mayBehind rfl ?_ (Nat.le_of_ble_eq_true rfl) rfl
  unfold fX12_mayBehind
  refine G_iload_n (x := a1) (pc := 0) dX12_mayBehind_0 rfl ?_
  refine G_iload_n (x := a3) (pc := 1) dX12_mayBehind_1 rfl ?_
  refine G_icmp_ne (tgt := 7) (pc := 2) dX12_mayBehind_2 ?_ ?_
  · refine G_aload_n (x := a0) (pc := 7) dX12_mayBehind_7 rfl ?_
    refine G_iload_n (x := a1) (pc := 8) dX12_mayBehind_8 rfl ?_
    refine G_iconst (pc := 9) dX12_mayBehind_9 ?_
    refine G_iadd (pc := 10) dX12_mayBehind_10 (fun x1 => ?_)
    refine G_iconst (pc := 11) dX12_mayBehind_11 ?_
    refine G_callVI (as := [vI x1, vI 0]) (st := []) (c := 12) (bc2 := 0) (bs2 := 0) (pc := 12) dX12_mayBehind_12 z_mX12_lends z_vX12_lends z_wX12_294 (gX12_lends hst fu s a0 x1 0) rfl rfl (by decide) rfl rfl ⟨by decide, by decide, by decide, by decide, Nat.le_of_ble_eq_true rfl⟩ rfl (fun x3 s2 => ?_)
    refine G_istore (lv' := [vR a0, vI a1, vI a2, vI a3, vI x3]) (pc := 15) dX12_mayBehind_15 rfl ?_
    refine G_iload_n (x := a1) (pc := 17) dX12_mayBehind_17 rfl ?_
    refine G_iconst (pc := 18) dX12_mayBehind_18 ?_
    refine G_iadd (pc := 19) dX12_mayBehind_19 (fun x4 => ?_)
    refine G_iload_n (x := a3) (pc := 20) dX12_mayBehind_20 rfl ?_
    refine G_icmp_gt (tgt := 55) (pc := 21) dX12_mayBehind_21 ?_ ?_
    · refine G_fg (lv2 := [vU, vU, vU, vU, vI x3]) ⟨Or.inl rfl, Or.inl rfl, Or.inl rfl, Or.inl rfl, Or.inr rfl, trivial⟩ ?_
      exact gX12_mayBehind_J55 hst fu s2 x3
    · refine G_aload_n (x := a0) (pc := 24) dX12_mayBehind_24 rfl ?_
      refine G_getR (j := 21) (pc := 25) dX12_mayBehind_25 rfl z_CLX12 (by decide) z_wX12_54 (by decide) (fun x5 => ?_)
      refine G_iload_n (x := a1) (pc := 28) dX12_mayBehind_28 rfl ?_
      refine G_iconst (pc := 29) dX12_mayBehind_29 ?_
      refine G_iadd (pc := 30) dX12_mayBehind_30 (fun x6 => ?_)
      refine G_iald (pc := 31) dX12_mayBehind_31 (fun x7 => ?_)
      refine G_bipush (pc := 32) dX12_mayBehind_32 ?_
      refine G_icmp_eq (tgt := 55) (pc := 34) dX12_mayBehind_34 ?_ ?_
      · refine G_fg (lv2 := [vU, vU, vU, vU, vI x3]) ⟨Or.inl rfl, Or.inl rfl, Or.inl rfl, Or.inl rfl, Or.inr rfl, trivial⟩ ?_
        exact gX12_mayBehind_J55 hst fu s2 x3
      · refine G_aload_n (x := a0) (pc := 37) dX12_mayBehind_37 rfl ?_
        refine G_getR (j := 31) (pc := 38) dX12_mayBehind_38 rfl z_CLX12 (by decide) z_wX12_84 (by decide) (fun x8 => ?_)
        refine G_iload_n (x := a1) (pc := 41) dX12_mayBehind_41 rfl ?_
        refine G_iconst (pc := 42) dX12_mayBehind_42 ?_
        refine G_iadd (pc := 43) dX12_mayBehind_43 (fun x9 => ?_)
        refine G_iald (pc := 44) dX12_mayBehind_44 (fun x10 => ?_)
        refine G_if_le (tgt := 55) (pc := 45) dX12_mayBehind_45 ?_ ?_
        · refine G_fg (lv2 := [vU, vU, vU, vU, vI x3]) ⟨Or.inl rfl, Or.inl rfl, Or.inl rfl, Or.inl rfl, Or.inr rfl, trivial⟩ ?_
          exact gX12_mayBehind_J55 hst fu s2 x3
        · refine G_iload (x := x3) (pc := 48) dX12_mayBehind_48 rfl ?_
          refine G_iconst (pc := 50) dX12_mayBehind_50 ?_
          refine G_idiv (pc := 51) dX12_mayBehind_51 (fun x11 => ?_)
          refine G_goto (tgt := 57) (pc := 52) dX12_mayBehind_52 ?_
          refine G_fg (lv2 := [vU, vU, vU, vU, vU]) ⟨Or.inl rfl, Or.inl rfl, Or.inl rfl, Or.inl rfl, Or.inl rfl, trivial⟩ ?_
          exact gX12_mayBehind_J57 hst fu s2 x11
  · refine G_iconst (pc := 5) dX12_mayBehind_5 ?_
    exact G_iret (pc := 6) dX12_mayBehind_6
def fX12_lays_J97 (fu : Nat) (s : z_M) (a0 : Int) (a1 : Int) (a2 : Int) (a3 : Int) (a4 : Int) (r : z_M → Int → Int → z_O) (k : z_M → Int → z_O) : z_O := if z_ob a0 12 then z_let (z_gr a0 25) (fun x7 => if z_ix x7 100 a4 then z_let (s x7 a4) (fun x8 => if z_ob a0 12 then z_let (z_gr a0 26) (fun x9 => if z_ix x9 100 a4 then z_let (s x9 a4) (fun x10 => z_let (z_w (x8 + x10)) (fun x11 => if z_ob a0 12 then z_let (z_gr a0 27) (fun x12 => if z_ix x12 100 a4 then z_let (s x12 a4) (fun x13 => z_let (z_w (x11 + x13)) (fun x14 => if z_ob a0 12 then z_let (z_gr a0 28) (fun x15 => if z_ix x15 100 a4 then z_let (s x15 a4) (fun x16 => z_let (z_w (x14 + x16)) (fun x17 => if z_ob a0 12 then z_let (z_gr a0 29) (fun x18 => if z_ix x18 100 a4 then z_let (s x18 a4) (fun x19 => z_let (z_w (x17 + x19)) (fun x20 => z_let (z_w (a3 + x20)) (fun x21 => z_let (z_w (a4 + 1)) (fun x22 => r s x21 x22)))) else none) else none)) else none) else none)) else none) else none)) else none) else none) else none) else none
theorem gX12_lays_J97 {l : Launch} {K : z_K} (hst : l.stackTraces = false) (fu : Nat) (s : z_M) (a0 : Int) (a1 : Int) (a2 : Int) (a3 : Int) (a4 : Int) (r : z_M → Int → Int → z_O) (k : z_M → Int → z_O) (hr : ∀ (s : z_M) (a3 : Int) (a4 : Int), G l K mX12_lays 4 91 0 0 17 [vR a0, vI a1, vI a2, vI a3, vI a4] [] s (r s a3 a4)) (hk : ∀ (s : z_M) (a3 : Int), G l K mX12_lays 4 91 0 0 145 [vU, vU, vU, vI a3, vU] [] s (k s a3)) : G l K mX12_lays 4 91 0 0 97 [vR a0, vI a1, vI a2, vI a3, vI a4] [] s (fX12_lays_J97 fu s a0 a1 a2 a3 a4 r k) := by
  unfold fX12_lays_J97
  refine G_iload_n (x := a3) (pc := 97) dX12_lays_97 rfl ?_
  refine G_aload_n (x := a0) (pc := 98) dX12_lays_98 rfl ?_
  refine G_getR (j := 25) (pc := 99) dX12_lays_99 rfl z_CLX12 (by decide) z_wX12_66 (by decide) (fun x7 => ?_)
  refine G_iload (x := a4) (pc := 102) dX12_lays_102 rfl ?_
  refine G_iald (pc := 104) dX12_lays_104 (fun x8 => ?_)
  refine G_aload_n (x := a0) (pc := 105) dX12_lays_105 rfl ?_
  refine G_getR (j := 26) (pc := 106) dX12_lays_106 rfl z_CLX12 (by decide) z_wX12_69 (by decide) (fun x9 => ?_)
  refine G_iload (x := a4) (pc := 109) dX12_lays_109 rfl ?_
  refine G_iald (pc := 111) dX12_lays_111 (fun x10 => ?_)
  refine G_iadd (pc := 112) dX12_lays_112 (fun x11 => ?_)
  refine G_aload_n (x := a0) (pc := 113) dX12_lays_113 rfl ?_
  refine G_getR (j := 27) (pc := 114) dX12_lays_114 rfl z_CLX12 (by decide) z_wX12_72 (by decide) (fun x12 => ?_)
  refine G_iload (x := a4) (pc := 117) dX12_lays_117 rfl ?_
  refine G_iald (pc := 119) dX12_lays_119 (fun x13 => ?_)
  refine G_iadd (pc := 120) dX12_lays_120 (fun x14 => ?_)
  refine G_aload_n (x := a0) (pc := 121) dX12_lays_121 rfl ?_
  refine G_getR (j := 28) (pc := 122) dX12_lays_122 rfl z_CLX12 (by decide) z_wX12_75 (by decide) (fun x15 => ?_)
  refine G_iload (x := a4) (pc := 125) dX12_lays_125 rfl ?_
  refine G_iald (pc := 127) dX12_lays_127 (fun x16 => ?_)
  refine G_iadd (pc := 128) dX12_lays_128 (fun x17 => ?_)
  refine G_aload_n (x := a0) (pc := 129) dX12_lays_129 rfl ?_
  refine G_getR (j := 29) (pc := 130) dX12_lays_130 rfl z_CLX12 (by decide) z_wX12_78 (by decide) (fun x18 => ?_)
  refine G_iload (x := a4) (pc := 133) dX12_lays_133 rfl ?_
  refine G_iald (pc := 135) dX12_lays_135 (fun x19 => ?_)
  refine G_iadd (pc := 136) dX12_lays_136 (fun x20 => ?_)
  refine G_iadd (pc := 137) dX12_lays_137 (fun x21 => ?_)
  refine G_istore_n (lv' := [vR a0, vI a1, vI a2, vI x21, vI a4]) (pc := 138) dX12_lays_138 rfl ?_
  refine G_iinc (x := a4) (g := fun x22 => [vR a0, vI a1, vI a2, vI x21, vI x22]) (pc := 139) dX12_lays_139 rfl (fun _ => rfl) (fun x22 => ?_)
  refine G_goto (tgt := 17) (pc := 142) dX12_lays_142 ?_
  exact hr s x21 x22
def fX12_lays_J60 (fu : Nat) (s : z_M) (a0 : Int) (a1 : Int) (a2 : Int) (a3 : Int) (a4 : Int) (r : z_M → Int → Int → z_O) (k : z_M → Int → z_O) : z_O := if z_ob a0 12 then z_let (z_gr a0 32) (fun x5 => if z_ix x5 100 a4 then z_let (s x5 a4) (fun x6 => if (x6 : Int) ≤ 0 then (fX12_lays_J97 fu s a0 a1 a2 a3 a4 (fun w v3 v4 => r w v3 v4) k) else (if z_ob a0 12 then z_let (z_gr a0 29) (fun x23 => if z_ob a0 12 then z_let (z_gr a0 32) (fun x24 => if z_ix x24 100 a4 then z_let (s x24 a4) (fun x25 => if z_ob a0 12 then z_bI (fX12_mayBehind fu s a0 a4 a1 a2) (fun x27 s26 => z_let (z_w (x25 - x27)) (fun x28 => z_bI (fX12_more fu s26 0 x28) (fun x30 s29 => if z_ix x23 100 a4 then z_let (z_up s29 x23 a4 x30) (fun s31 => fX12_lays_J97 fu s31 a0 a1 a2 a3 a4 (fun w v3 v4 => r w v3 v4) k) else none))) else none) else none) else none) else none)) else none) else none
theorem gX12_lays_J60 {l : Launch} {K : z_K} (hst : l.stackTraces = false) (fu : Nat) (s : z_M) (a0 : Int) (a1 : Int) (a2 : Int) (a3 : Int) (a4 : Int) (r : z_M → Int → Int → z_O) (k : z_M → Int → z_O) (hr : ∀ (s : z_M) (a3 : Int) (a4 : Int), G l K mX12_lays 4 91 0 0 17 [vR a0, vI a1, vI a2, vI a3, vI a4] [] s (r s a3 a4)) (hk : ∀ (s : z_M) (a3 : Int), G l K mX12_lays 4 91 0 0 145 [vU, vU, vU, vI a3, vU] [] s (k s a3)) : G l K mX12_lays 4 91 0 0 60 [vR a0, vI a1, vI a2, vI a3, vI a4] [] s (fX12_lays_J60 fu s a0 a1 a2 a3 a4 r k) := by
  unfold fX12_lays_J60
  refine G_aload_n (x := a0) (pc := 60) dX12_lays_60 rfl ?_
  refine G_getR (j := 32) (pc := 61) dX12_lays_61 rfl z_CLX12 (by decide) z_wX12_87 (by decide) (fun x5 => ?_)
  refine G_iload (x := a4) (pc := 64) dX12_lays_64 rfl ?_
  refine G_iald (pc := 66) dX12_lays_66 (fun x6 => ?_)
  refine G_if_le (tgt := 97) (pc := 67) dX12_lays_67 ?_ ?_
  · exact gX12_lays_J97 hst fu s a0 a1 a2 a3 a4 _ _ (fun w v3 v4 => hr w v3 v4) hk
  · refine G_aload_n (x := a0) (pc := 70) dX12_lays_70 rfl ?_
    refine G_getR (j := 29) (pc := 71) dX12_lays_71 rfl z_CLX12 (by decide) z_wX12_78 (by decide) (fun x23 => ?_)
    refine G_iload (x := a4) (pc := 74) dX12_lays_74 rfl ?_
    refine G_iconst (pc := 76) dX12_lays_76 ?_
    refine G_aload_n (x := a0) (pc := 77) dX12_lays_77 rfl ?_
    refine G_getR (j := 32) (pc := 78) dX12_lays_78 rfl z_CLX12 (by decide) z_wX12_87 (by decide) (fun x24 => ?_)
    refine G_iload (x := a4) (pc := 81) dX12_lays_81 rfl ?_
    refine G_iald (pc := 83) dX12_lays_83 (fun x25 => ?_)
    refine G_aload_n (x := a0) (pc := 84) dX12_lays_84 rfl ?_
    refine G_iload (x := a4) (pc := 85) dX12_lays_85 rfl ?_
    refine G_iload_n (x := a1) (pc := 87) dX12_lays_87 rfl ?_
    refine G_iload_n (x := a2) (pc := 88) dX12_lays_88 rfl ?_
    refine G_callVI (as := [vI a4, vI a1, vI a2]) (st := [vI x25, vI 0, vI a4, vR x23]) (c := 12) (bc2 := 0) (bs2 := 0) (pc := 89) dX12_lays_89 z_mX12_mayBehind z_vX12_mayBehind z_wX12_308 (gX12_mayBehind hst fu s a0 a4 a1 a2) rfl rfl (by decide) rfl rfl ⟨by decide, by decide, by decide, by decide, Nat.le_of_ble_eq_true rfl⟩ rfl (fun x27 s26 => ?_)
    refine G_isub (pc := 92) dX12_lays_92 (fun x28 => ?_)
    refine G_callSI (as := [vI 0, vI x28]) (st := [vI a4, vR x23]) (bc2 := 0) (bs2 := 0) (pc := 93) dX12_lays_93 z_mX12_more z_sX12_more z_wX12_256 (gX12_more hst fu s26 0 x28) rfl rfl ⟨by decide, by decide, by decide, by decide, Nat.le_of_ble_eq_true rfl⟩ rfl (fun x30 s29 => ?_)
    refine G_iast (pc := 96) dX12_lays_96 (fun s31 => ?_)
    exact gX12_lays_J97 hst fu s31 a0 a1 a2 a3 a4 _ _ (fun w v3 v4 => hr w v3 v4) hk
def fX12_lays_L17 (fu : Nat) (a0 : Int) (a1 : Int) (a2 : Int) : Nat → z_M → Int → Int → (z_M → Int → z_O) → z_O
  | 0, _, _, _, _ => none
  | F + 1, s, a3, a4, k => if (a2 : Int) < a4 then (k s a3) else (if z_ob a0 12 then z_let (z_gr a0 31) (fun x3 => if z_ix x3 100 a4 then z_let (s x3 a4) (fun x4 => if (x4 : Int) ≤ 0 then (fX12_lays_J60 fu s a0 a1 a2 a3 a4 (fun w v3 v4 => fX12_lays_L17 fu a0 a1 a2 F w v3 v4 k) k) else (if z_ob a0 12 then z_let (z_gr a0 28) (fun x32 => if z_ob a0 12 then z_let (z_gr a0 31) (fun x33 => if z_ix x33 100 a4 then z_let (s x33 a4) (fun x34 => if z_ob a0 12 then z_bI (fX12_mayAhead fu s a0 a4 a1 a2) (fun x36 s35 => z_let (z_w (x34 - x36)) (fun x37 => z_bI (fX12_more fu s35 0 x37) (fun x39 s38 => if z_ix x32 100 a4 then z_let (z_up s38 x32 a4 x39) (fun s40 => fX12_lays_J60 fu s40 a0 a1 a2 a3 a4 (fun w v3 v4 => fX12_lays_L17 fu a0 a1 a2 F w v3 v4 k) k) else none))) else none) else none) else none) else none)) else none) else none)
theorem gX12_lays_L17 {l : Launch} {K : z_K} (hst : l.stackTraces = false) (fu : Nat) (a0 : Int) (a1 : Int) (a2 : Int) (k : z_M → Int → z_O) (hk : ∀ (s : z_M) (a3 : Int), G l K mX12_lays 4 91 0 0 145 [vU, vU, vU, vI a3, vU] [] s (k s a3)) : ∀ (F : Nat) (s : z_M) (a3 : Int) (a4 : Int), G l K mX12_lays 4 91 0 0 17 [vR a0, vI a1, vI a2, vI a3, vI a4] [] s (fX12_lays_L17 fu a0 a1 a2 F s a3 a4 k) := by
  intro F
  induction F with
  | zero => exact fun s a3 a4 h => absurd rfl h
  | succ F ih =>
    intro s a3 a4
    rw [fX12_lays_L17]
    refine G_iload (x := a4) (pc := 17) dX12_lays_17 rfl ?_
    refine G_iload_n (x := a2) (pc := 19) dX12_lays_19 rfl ?_
    refine G_icmp_gt (tgt := 145) (pc := 20) dX12_lays_20 ?_ ?_
    · refine G_fg (lv2 := [vU, vU, vU, vI a3, vU]) ⟨Or.inl rfl, Or.inl rfl, Or.inl rfl, Or.inr rfl, Or.inl rfl, trivial⟩ ?_
      exact hk s a3
    · refine G_aload_n (x := a0) (pc := 23) dX12_lays_23 rfl ?_
      refine G_getR (j := 31) (pc := 24) dX12_lays_24 rfl z_CLX12 (by decide) z_wX12_84 (by decide) (fun x3 => ?_)
      refine G_iload (x := a4) (pc := 27) dX12_lays_27 rfl ?_
      refine G_iald (pc := 29) dX12_lays_29 (fun x4 => ?_)
      refine G_if_le (tgt := 60) (pc := 30) dX12_lays_30 ?_ ?_
      · exact gX12_lays_J60 hst fu s a0 a1 a2 a3 a4 _ _ (fun w v3 v4 => ih w v3 v4) hk
      · refine G_aload_n (x := a0) (pc := 33) dX12_lays_33 rfl ?_
        refine G_getR (j := 28) (pc := 34) dX12_lays_34 rfl z_CLX12 (by decide) z_wX12_75 (by decide) (fun x32 => ?_)
        refine G_iload (x := a4) (pc := 37) dX12_lays_37 rfl ?_
        refine G_iconst (pc := 39) dX12_lays_39 ?_
        refine G_aload_n (x := a0) (pc := 40) dX12_lays_40 rfl ?_
        refine G_getR (j := 31) (pc := 41) dX12_lays_41 rfl z_CLX12 (by decide) z_wX12_84 (by decide) (fun x33 => ?_)
        refine G_iload (x := a4) (pc := 44) dX12_lays_44 rfl ?_
        refine G_iald (pc := 46) dX12_lays_46 (fun x34 => ?_)
        refine G_aload_n (x := a0) (pc := 47) dX12_lays_47 rfl ?_
        refine G_iload (x := a4) (pc := 48) dX12_lays_48 rfl ?_
        refine G_iload_n (x := a1) (pc := 50) dX12_lays_50 rfl ?_
        refine G_iload_n (x := a2) (pc := 51) dX12_lays_51 rfl ?_
        refine G_callVI (as := [vI a4, vI a1, vI a2]) (st := [vI x34, vI 0, vI a4, vR x32]) (c := 12) (bc2 := 0) (bs2 := 0) (pc := 52) dX12_lays_52 z_mX12_mayAhead z_vX12_mayAhead z_wX12_304 (gX12_mayAhead hst fu s a0 a4 a1 a2) rfl rfl (by decide) rfl rfl ⟨by decide, by decide, by decide, by decide, Nat.le_of_ble_eq_true rfl⟩ rfl (fun x36 s35 => ?_)
        refine G_isub (pc := 55) dX12_lays_55 (fun x37 => ?_)
        refine G_callSI (as := [vI 0, vI x37]) (st := [vI a4, vR x32]) (bc2 := 0) (bs2 := 0) (pc := 56) dX12_lays_56 z_mX12_more z_sX12_more z_wX12_256 (gX12_more hst fu s35 0 x37) rfl rfl ⟨by decide, by decide, by decide, by decide, Nat.le_of_ble_eq_true rfl⟩ rfl (fun x39 s38 => ?_)
        refine G_iast (pc := 59) dX12_lays_59 (fun s40 => ?_)
        exact gX12_lays_J60 hst fu s40 a0 a1 a2 a3 a4 _ _ (fun w v3 v4 => ih w v3 v4) hk
def fX12_lays (fu : Nat) (s : z_M) (a0 : Int) (a1 : Int) (a2 : Int) : z_O := if z_ob a0 12 then z_bN (fX12_laysSpaces fu s a0 a1 a2) (fun s1 => if z_ob a0 12 then z_bN (fX12_laysBlocks fu s1 a0 a1 a2) (fun s2 => fX12_lays_L17 fu a0 a1 a2 fu s2 0 a1 (fun s41 x42 => some (vI x42, s41))) else none) else none
theorem gX12_lays {l : Launch} {K : z_K} (hst : l.stackTraces = false) (fu : Nat) (s : z_M) (a0 : Int) (a1 : Int) (a2 : Int) : z_D l K mX12_lays 4 91 0 0 [vR a0, vI a1, vI a2] s (fX12_lays fu s a0 a1 a2) := by
  refine z_D_of (lv := [vR a0, vI a1, vI a2, vU, vU]) hst z_mX12_lays rfl ?_ (Nat.le_of_ble_eq_true rfl) rfl
  unfold fX12_lays
  refine G_aload_n (x := a0) (pc := 0) dX12_lays_0 rfl ?_
  refine G_iload_n (x := a1) (pc := 1) dX12_lays_1 rfl ?_
  refine G_iload_n (x := a2) (pc := 2) dX12_lays_2 rfl ?_
  refine G_callVN (as := [vI a1, vI a2]) (st := []) (c := 12) (bc2 := 0) (bs2 := 0) (pc := 3) dX12_lays_3 z_mX12_laysSpaces z_vX12_laysSpaces z_wX12_298 (gX12_laysSpaces hst fu s a0 a1 a2) rfl rfl (by decide) rfl rfl ⟨by decide, by decide, by decide, by decide, Nat.le_of_ble_eq_true rfl⟩ rfl (fun s1 => ?_)
  refine G_aload_n (x := a0) (pc := 6) dX12_lays_6 rfl ?_
  refine G_iload_n (x := a1) (pc := 7) dX12_lays_7 rfl ?_
  refine G_iload_n (x := a2) (pc := 8) dX12_lays_8 rfl ?_
  refine G_callVN (as := [vI a1, vI a2]) (st := []) (c := 12) (bc2 := 0) (bs2 := 0) (pc := 9) dX12_lays_9 z_mX12_laysBlocks z_vX12_laysBlocks z_wX12_301 (gX12_laysBlocks hst fu s1 a0 a1 a2) rfl rfl (by decide) rfl rfl ⟨by decide, by decide, by decide, by decide, Nat.le_of_ble_eq_true rfl⟩ rfl (fun s2 => ?_)
  refine G_iconst (pc := 12) dX12_lays_12 ?_
  refine G_istore_n (lv' := [vR a0, vI a1, vI a2, vI 0, vU]) (pc := 13) dX12_lays_13 rfl ?_
  refine G_iload_n (x := a1) (pc := 14) dX12_lays_14 rfl ?_
  refine G_istore (lv' := [vR a0, vI a1, vI a2, vI 0, vI a1]) (pc := 15) dX12_lays_15 rfl ?_
  refine gX12_lays_L17 hst fu a0 a1 a2 _ (fun s41 x42 => ?_) fu s2 0 a1
  refine G_iload_n (x := x42) (pc := 145) dX12_lays_145 rfl ?_
  exact G_iret (pc := 146) dX12_lays_146
def fX12_longAs_J30 (fu : Nat) (s : z_M) (a0 : Int) (a1 : Int) (a2 : Int) : z_O := if z_ob a0 12 then z_let (z_gr a0 37) (fun x5 => if z_ix x5 103 a1 then z_let (z_gr x5 a1) (fun x6 => if z_ix x6 100 a2 then z_let (s x6 a2) (fun x7 => some (vI x7, s)) else none) else none) else none
theorem gX12_longAs_J30 {l : Launch} {K : z_K} (hst : l.stackTraces = false) (fu : Nat) (s : z_M) (a0 : Int) (a1 : Int) (a2 : Int) : G l K mX12_longAs 6 134 0 0 30 [vR a0, vI a1, vI a2] [] s (fX12_longAs_J30 fu s a0 a1 a2) := by
  unfold fX12_longAs_J30
  refine G_aload_n (x := a0) (pc := 30) dX12_longAs_30 rfl ?_
  refine G_getR (j := 37) (pc := 31) dX12_longAs_31 rfl z_CLX12 (by decide) z_wX12_96 (by decide) (fun x5 => ?_)
  refine G_iload_n (x := a1) (pc := 34) dX12_longAs_34 rfl ?_
  refine G_aald103 (pc := 35) dX12_longAs_35 (fun x6 => ?_)
  refine G_iload_n (x := a2) (pc := 36) dX12_longAs_36 rfl ?_
  refine G_iald (pc := 37) dX12_longAs_37 (fun x7 => ?_)
  exact G_iret (pc := 38) dX12_longAs_38
def fX12_longAs (fu : Nat) (s : z_M) (a0 : Int) (a1 : Int) (a2 : Int) : z_O := if z_ob a0 12 then z_bN (fX12_freshens fu s a0) (fun s1 => if z_ob a0 12 then z_let (z_gr a0 37) (fun x2 => if z_ix x2 103 a1 then z_let (z_gr x2 a1) (fun x3 => if z_ix x3 100 a2 then z_let (s1 x3 a2) (fun x4 => if (x4 : Int) ≠ (-1) then (fX12_longAs_J30 fu s1 a0 a1 a2) else (if z_ob a0 12 then z_let (z_gr a0 37) (fun x8 => if z_ix x8 103 a1 then z_let (z_gr x8 a1) (fun x9 => if z_ob a0 12 then z_bI (fX12_lays fu s1 a0 a1 a2) (fun x11 s10 => if z_ix x9 100 a2 then z_let (z_up s10 x9 a2 x11) (fun s12 => fX12_longAs_J30 fu s12 a0 a1 a2) else none) else none) else none) else none)) else none) else none) else none) else none
theorem gX12_longAs {l : Launch} {K : z_K} (hst : l.stackTraces = false) (fu : Nat) (s : z_M) (a0 : Int) (a1 : Int) (a2 : Int) : z_D l K mX12_longAs 6 134 0 0 [vR a0, vI a1, vI a2] s (fX12_longAs fu s a0 a1 a2) := by
  refine z_D_of (lv := [vR a0, vI a1, vI a2]) hst z_mX12_longAs rfl ?_ (Nat.le_of_ble_eq_true rfl) rfl
  unfold fX12_longAs
  refine G_aload_n (x := a0) (pc := 0) dX12_longAs_0 rfl ?_
  refine G_callVN (as := []) (st := []) (c := 12) (bc2 := 0) (bs2 := 0) (pc := 1) dX12_longAs_1 z_mX12_freshens z_vX12_freshens z_wX12_326 (gX12_freshens hst fu s a0) rfl rfl (by decide) rfl rfl ⟨by decide, by decide, by decide, by decide, Nat.le_of_ble_eq_true rfl⟩ rfl (fun s1 => ?_)
  refine G_aload_n (x := a0) (pc := 4) dX12_longAs_4 rfl ?_
  refine G_getR (j := 37) (pc := 5) dX12_longAs_5 rfl z_CLX12 (by decide) z_wX12_96 (by decide) (fun x2 => ?_)
  refine G_iload_n (x := a1) (pc := 8) dX12_longAs_8 rfl ?_
  refine G_aald103 (pc := 9) dX12_longAs_9 (fun x3 => ?_)
  refine G_iload_n (x := a2) (pc := 10) dX12_longAs_10 rfl ?_
  refine G_iald (pc := 11) dX12_longAs_11 (fun x4 => ?_)
  refine G_iconst (pc := 12) dX12_longAs_12 ?_
  refine G_icmp_ne (tgt := 30) (pc := 13) dX12_longAs_13 ?_ ?_
  · exact gX12_longAs_J30 hst fu s1 a0 a1 a2
  · refine G_aload_n (x := a0) (pc := 16) dX12_longAs_16 rfl ?_
    refine G_getR (j := 37) (pc := 17) dX12_longAs_17 rfl z_CLX12 (by decide) z_wX12_96 (by decide) (fun x8 => ?_)
    refine G_iload_n (x := a1) (pc := 20) dX12_longAs_20 rfl ?_
    refine G_aald103 (pc := 21) dX12_longAs_21 (fun x9 => ?_)
    refine G_iload_n (x := a2) (pc := 22) dX12_longAs_22 rfl ?_
    refine G_aload_n (x := a0) (pc := 23) dX12_longAs_23 rfl ?_
    refine G_iload_n (x := a1) (pc := 24) dX12_longAs_24 rfl ?_
    refine G_iload_n (x := a2) (pc := 25) dX12_longAs_25 rfl ?_
    refine G_callVI (as := [vI a1, vI a2]) (st := [vI a2, vR x9]) (c := 12) (bc2 := 0) (bs2 := 0) (pc := 26) dX12_longAs_26 z_mX12_lays z_vX12_lays z_wX12_329 (gX12_lays hst fu s1 a0 a1 a2) rfl rfl (by decide) rfl rfl ⟨by decide, by decide, by decide, by decide, Nat.le_of_ble_eq_true rfl⟩ rfl (fun x11 s10 => ?_)
    refine G_iast (pc := 29) dX12_longAs_29 (fun s12 => ?_)
    exact gX12_longAs_J30 hst fu s12 a0 a1 a2
def fX12_cost_J49 (fu : Nat) (s : z_M) (t0 : Int) : z_O := some (vL t0, s)
theorem gX12_cost_J49 {l : Launch} {K : z_K} (hst : l.stackTraces = false) (fu : Nat) (s : z_M) (t0 : Int) : G l K mX12_cost 7 156 0 0 49 [vU, vU, vU, vU, vU] [vL t0] s (fX12_cost_J49 fu s t0) := by
  unfold fX12_cost_J49
  exact G_lret (pc := 49) dX12_cost_49
def fX12_cost (fu : Nat) (s : z_M) (a0 : Int) (a1 : Int) (a2 : Int) (a3 : Int) : z_O := if z_ob a0 12 then z_bI (fX12_longAs fu s a0 a1 a2) (fun x2 s1 => if (x2 : Int) ≤ a3 then (if z_ob a0 12 then z_let (s1 a0 20) (fun x3 => z_let (z_w (x3 - 1)) (fun x4 => if (a2 : Int) ≠ x4 then (z_let (z_w (a3 - x2)) (fun x5 => z_let (z_w (a3 - x2)) (fun x6 => z_let (z_wl (x5 * x6)) (fun x7 => fX12_cost_J49 fu s1 x7)))) else (fX12_cost_J49 fu s1 0))) else none) else (z_let (z_w (x2 - a3)) (fun x8 => z_let (z_wl (1000000 * x8)) (fun x9 => some (vL x9, s1))))) else none
theorem gX12_cost {l : Launch} {K : z_K} (hst : l.stackTraces = false) (fu : Nat) (s : z_M) (a0 : Int) (a1 : Int) (a2 : Int) (a3 : Int) : z_D l K mX12_cost 7 156 0 0 [vR a0, vI a1, vI a2, vI a3] s (fX12_cost fu s a0 a1 a2 a3) := by
  refine z_D_of (lv := [vR a0, vI a1, vI a2, vI a3, vU]) hst z_mX12_cost rfl ?_ (Nat.le_of_ble_eq_true rfl) rfl
  unfold fX12_cost
  refine G_aload_n (x := a0) (pc := 0) dX12_cost_0 rfl ?_
  refine G_iload_n (x := a1) (pc := 1) dX12_cost_1 rfl ?_
  refine G_iload_n (x := a2) (pc := 2) dX12_cost_2 rfl ?_
  refine G_callVI (as := [vI a1, vI a2]) (st := []) (c := 12) (bc2 := 0) (bs2 := 0) (pc := 3) dX12_cost_3 z_mX12_longAs z_vX12_longAs z_wX12_332 (gX12_longAs hst fu s a0 a1 a2) rfl rfl (by decide) rfl rfl ⟨by decide, by decide, by decide, by decide, Nat.le_of_ble_eq_true rfl⟩ rfl (fun x2 s1 => ?_)
  refine G_istore (lv' := [vR a0, vI a1, vI a2, vI a3, vI x2]) (pc := 6) dX12_cost_6 rfl ?_
  refine G_iload (x := x2) (pc := 8) dX12_cost_8 rfl ?_
  refine G_iload_n (x := a3) (pc := 10) dX12_cost_10 rfl ?_
  refine G_icmp_le (tgt := 24) (pc := 11) dX12_cost_11 ?_ ?_
  · refine G_iload_n (x := a2) (pc := 24) dX12_cost_24 rfl ?_
    refine G_aload_n (x := a0) (pc := 25) dX12_cost_25 rfl ?_
    refine G_getI (j := 20) (pc := 26) dX12_cost_26 rfl z_CLX12 (by decide) z_wX12_242 (by decide) (fun x3 => ?_)
    refine G_iconst (pc := 29) dX12_cost_29 ?_
    refine G_isub (pc := 30) dX12_cost_30 (fun x4 => ?_)
    refine G_icmp_ne (tgt := 38) (pc := 31) dX12_cost_31 ?_ ?_
    · refine G_iload_n (x := a3) (pc := 38) dX12_cost_38 rfl ?_
      refine G_iload (x := x2) (pc := 39) dX12_cost_39 rfl ?_
      refine G_isub (pc := 41) dX12_cost_41 (fun x5 => ?_)
      refine G_i2l (pc := 42) dX12_cost_42 ?_
      refine G_iload_n (x := a3) (pc := 43) dX12_cost_43 rfl ?_
      refine G_iload (x := x2) (pc := 44) dX12_cost_44 rfl ?_
      refine G_isub (pc := 46) dX12_cost_46 (fun x6 => ?_)
      refine G_i2l (pc := 47) dX12_cost_47 ?_
      refine G_lmul (pc := 48) dX12_cost_48 (fun x7 => ?_)
      refine G_fg (lv2 := [vU, vU, vU, vU, vU]) ⟨Or.inl rfl, Or.inl rfl, Or.inl rfl, Or.inl rfl, Or.inl rfl, trivial⟩ ?_
      exact gX12_cost_J49 hst fu s1 x7
    · refine G_lconst (y := 0) (pc := 34) dX12_cost_34 ?_
      refine G_goto (tgt := 49) (pc := 35) dX12_cost_35 ?_
      refine G_fg (lv2 := [vU, vU, vU, vU, vU]) ⟨Or.inl rfl, Or.inl rfl, Or.inl rfl, Or.inl rfl, Or.inl rfl, trivial⟩ ?_
      exact gX12_cost_J49 hst fu s1 0
  · refine G_ldc2 (pc := 14) dX12_cost_14 z_wX12_338 ?_
    refine G_iload (x := x2) (pc := 17) dX12_cost_17 rfl ?_
    refine G_iload_n (x := a3) (pc := 19) dX12_cost_19 rfl ?_
    refine G_isub (pc := 20) dX12_cost_20 (fun x8 => ?_)
    refine G_i2l (pc := 21) dX12_cost_21 ?_
    refine G_lmul (pc := 22) dX12_cost_22 (fun x9 => ?_)
    exact G_lret (pc := 23) dX12_cost_23
