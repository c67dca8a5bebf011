/-! FUNCTIONS: each method as a function of numbers, and that its code does what it says (by program) -/
theorem z_tokX11_0 : z_TOK RX11 359 361 0 := ⟨z_wX11_359, by decide +kernel, by decide +kernel, by decide +kernel, by decide +kernel⟩
theorem z_tokX11_1 : z_TOK RX11 362 364 1 := ⟨z_wX11_362, by decide +kernel, by decide +kernel, by decide +kernel, by decide +kernel⟩
def fX7_put_J20 (fu : Nat) (s : z_M) : z_O := some (vN, s)
theorem gX7_put_J20 {l : Launch} {K : z_K} (hst : l.stackTraces = false) (fu : Nat) (s : z_M) : G l K mX7_put 0 0 0 0 20 [vU, vU, vU] [] s (fX7_put_J20 fu s) := by
  unfold fX7_put_J20
  exact G_vret (pc := 20) dX7_put_20
def fX7_put (fu : Nat) (s : z_M) (a0 : Int) (a1 : Int) (a2 : Int) : z_O := if (a1 : Int) < 0 then (fX7_put_J20 fu s) else (if z_ob a0 7 then z_let (z_gr a0 0) (fun x1 => if z_ob x1 100 ∧ z_I ((z_sh x1).2 : Nat) then z_let (((z_sh x1).2 : Nat) : Int) (fun x2 => if (x2 : Int) ≤ a1 then (fX7_put_J20 fu s) else (if z_ob a0 7 then z_let (z_gr a0 0) (fun x3 => if z_ix x3 100 a1 then z_let (z_up s x3 a1 a2) (fun s4 => fX7_put_J20 fu s4) else none) else none)) else none) else none)
theorem gX7_put {l : Launch} {K : z_K} (hst : l.stackTraces = false) (fu : Nat) (s : z_M) (a0 : Int) (a1 : Int) (a2 : Int) : z_D l K mX7_put 0 0 0 0 [vR a0, vI a1, vI a2] s (fX7_put fu s a0 a1 a2) := by
  refine z_D_of (lv := [vR a0, vI a1, vI a2]) hst z_mX7_put rfl ?_ (Nat.le_of_ble_eq_true rfl) rfl
  unfold fX7_put
  refine G_iload_n (x := a1) (pc := 0) dX7_put_0 rfl ?_
  refine G_if_lt (tgt := 20) (pc := 1) dX7_put_1 ?_ ?_
  · refine G_fg (lv2 := [vU, vU, vU]) ⟨Or.inl rfl, Or.inl rfl, Or.inl rfl, trivial⟩ ?_
    exact gX7_put_J20 hst fu s
  · refine G_iload_n (x := a1) (pc := 4) dX7_put_4 rfl ?_
    refine G_aload_n (x := a0) (pc := 5) dX7_put_5 rfl ?_
    refine G_getR (j := 0) (pc := 6) dX7_put_6 rfl z_CLX7 (by decide) z_wX7_7 (by decide) (fun x1 => ?_)
    refine G_alen100 (pc := 9) dX7_put_9 (fun x2 => ?_)
    refine G_icmp_ge (tgt := 20) (pc := 10) dX7_put_10 ?_ ?_
    · refine G_fg (lv2 := [vU, vU, vU]) ⟨Or.inl rfl, Or.inl rfl, Or.inl rfl, trivial⟩ ?_
      exact gX7_put_J20 hst fu s
    · refine G_aload_n (x := a0) (pc := 13) dX7_put_13 rfl ?_
      refine G_getR (j := 0) (pc := 14) dX7_put_14 rfl z_CLX7 (by decide) z_wX7_7 (by decide) (fun x3 => ?_)
      refine G_iload_n (x := a1) (pc := 17) dX7_put_17 rfl ?_
      refine G_iload_n (x := a2) (pc := 18) dX7_put_18 rfl ?_
      refine G_iast (pc := 19) dX7_put_19 (fun s4 => ?_)
      refine G_fg (lv2 := [vU, vU, vU]) ⟨Or.inl rfl, Or.inl rfl, Or.inl rfl, trivial⟩ ?_
      exact gX7_put_J20 hst fu s4
def fX11_tapeNumber_L3 (fu : Nat) (a0 : Int) (a1 : Int) : Nat → z_M → Int → (z_M → z_O) → z_O
  | 0, _, _, _ => none
  | F + 1, s, a2, k => if (a2 : Int) < 0 then (k s) else (if z_ob a0 11 then z_let (z_gr a0 1) (fun x1 => if z_ob a0 11 then z_let (s a0 12) (fun x2 => z_let (z_ushr a1 a2) (fun x3 => z_let (z_and x3 255) (fun x4 => if z_ob x1 7 then z_bN (fX7_put fu s x1 x2 x4) (fun s5 => if z_ob a0 11 then z_let (s5 a0 12) (fun x6 => z_let (z_w (x6 + 1)) (fun x7 => if z_ob a0 11 then z_let (z_up s5 a0 12 x7) (fun s8 => z_let (z_w (a2 + (-8))) (fun x9 => fX11_tapeNumber_L3 fu a0 a1 F s8 x9 k)) else none)) else none) else none))) else none) else none)
theorem gX11_tapeNumber_L3 {l : Launch} {K : z_K} (hst : l.stackTraces = false) (fu : Nat) (a0 : Int) (a1 : Int) (k : z_M → z_O) (hk : ∀ (s : z_M), G l K mX11_tapeNumber 1 22 0 0 41 [vU, vU, vU] [] s (k s)) : ∀ (F : Nat) (s : z_M) (a2 : Int), G l K mX11_tapeNumber 1 22 0 0 3 [vR a0, vI a1, vI a2] [] s (fX11_tapeNumber_L3 fu a0 a1 F s a2 k) := by
  intro F
  induction F with
  | zero => exact fun s a2 h => absurd rfl h
  | succ F ih =>
    intro s a2
    rw [fX11_tapeNumber_L3]
    refine G_iload_n (x := a2) (pc := 3) dX11_tapeNumber_3 rfl ?_
    refine G_if_lt (tgt := 41) (pc := 4) dX11_tapeNumber_4 ?_ ?_
    · refine G_fg (lv2 := [vU, vU, vU]) ⟨Or.inl rfl, Or.inl rfl, Or.inl rfl, trivial⟩ ?_
      exact hk s
    · refine G_aload_n (x := a0) (pc := 7) dX11_tapeNumber_7 rfl ?_
      refine G_getR (j := 1) (pc := 8) dX11_tapeNumber_8 rfl z_CLX11 (by decide) z_wX11_22 (by decide) (fun x1 => ?_)
      refine G_aload_n (x := a0) (pc := 11) dX11_tapeNumber_11 rfl ?_
      refine G_getI (j := 12) (pc := 12) dX11_tapeNumber_12 rfl z_CLX11 (by decide) z_wX11_107 (by decide) (fun x2 => ?_)
      refine G_iload_n (x := a1) (pc := 15) dX11_tapeNumber_15 rfl ?_
      refine G_iload_n (x := a2) (pc := 16) dX11_tapeNumber_16 rfl ?_
      refine G_iushr (pc := 17) dX11_tapeNumber_17 (fun x3 => ?_)
      refine G_sipush (pc := 18) dX11_tapeNumber_18 ?_
      refine G_iand (pc := 21) dX11_tapeNumber_21 (fun x4 => ?_)
      refine G_callVN (as := [vI x2, vI x4]) (st := []) (c := 7) (bc2 := 0) (bs2 := 0) (pc := 22) dX11_tapeNumber_22 z_mX7_put z_vX7_put z_wX11_103 (gX7_put hst fu s x1 x2 x4) rfl rfl (by decide) rfl rfl ⟨by decide, by decide, by decide, by decide, Nat.le_of_ble_eq_true rfl⟩ rfl (fun s5 => ?_)
      refine G_aload_n (x := a0) (pc := 25) dX11_tapeNumber_25 rfl ?_
      refine G_dupR (pc := 26) dX11_tapeNumber_26 ?_
      refine G_getI (j := 12) (pc := 27) dX11_tapeNumber_27 rfl z_CLX11 (by decide) z_wX11_107 (by decide) (fun x6 => ?_)
      refine G_iconst (pc := 30) dX11_tapeNumber_30 ?_
      refine G_iadd (pc := 31) dX11_tapeNumber_31 (fun x7 => ?_)
      refine G_putI (j := 12) (pc := 32) dX11_tapeNumber_32 rfl z_CLX11 (by decide) z_wX11_107 rfl (by decide) (by decide) (fun s8 => ?_)
      refine G_iinc (x := a2) (g := fun x9 => [vR a0, vI a1, vI x9]) (pc := 35) dX11_tapeNumber_35 rfl (fun _ => rfl) (fun x9 => ?_)
      refine G_goto (tgt := 3) (pc := 38) dX11_tapeNumber_38 ?_
      exact ih s8 x9
def fX11_tapeNumber (fu : Nat) (s : z_M) (a0 : Int) (a1 : Int) : z_O := fX11_tapeNumber_L3 fu a0 a1 fu s 24 (fun s10 => some (vN, s10))
theorem gX11_tapeNumber {l : Launch} {K : z_K} (hst : l.stackTraces = false) (fu : Nat) (s : z_M) (a0 : Int) (a1 : Int) : z_D l K mX11_tapeNumber 1 22 0 0 [vR a0, vI a1] s (fX11_tapeNumber fu s a0 a1) := by
  refine z_D_of (lv := [vR a0, vI a1, vU]) hst z_mX11_tapeNumber rfl ?_ (Nat.le_of_ble_eq_true rfl) rfl
  unfold fX11_tapeNumber
  refine G_bipush (pc := 0) dX11_tapeNumber_0 ?_
  refine G_istore_n (lv' := [vR a0, vI a1, vI 24]) (pc := 2) dX11_tapeNumber_2 rfl ?_
  refine gX11_tapeNumber_L3 hst fu a0 a1 _ (fun s10 => ?_) fu s 24
  exact G_vret (pc := 41) dX11_tapeNumber_41
def fX11_feed (fu : Nat) (s : z_M) (a0 : Int) (a1 : Int) (a2 : Int) (a3 : Int) (a4 : Int) (a5 : Int) : z_O := if z_ob a0 11 then z_let (s a0 12) (fun x1 => if (x1 : Int) ≤ 280 then (if z_ob a0 11 then z_bN (fX11_tapeNumber fu s a0 a1) (fun s2 => if z_ob a0 11 then z_bN (fX11_tapeNumber fu s2 a0 a2) (fun s3 => if z_ob a0 11 then z_bN (fX11_tapeNumber fu s3 a0 a3) (fun s4 => if z_ob a0 11 then z_bN (fX11_tapeNumber fu s4 a0 a4) (fun s5 => if z_ob a0 11 then z_bN (fX11_tapeNumber fu s5 a0 a5) (fun s6 => if z_ob a0 11 then z_let (s6 a0 12) (fun x7 => some (vI x7, s6)) else none) else none) else none) else none) else none) else none) else (some (vI (-1), s))) else none
theorem gX11_feed {l : Launch} {K : z_K} (hst : l.stackTraces = false) (fu : Nat) (s : z_M) (a0 : Int) (a1 : Int) (a2 : Int) (a3 : Int) (a4 : Int) (a5 : Int) : z_D l K mX11_feed 2 44 0 0 [vR a0, vI a1, vI a2, vI a3, vI a4, vI a5] s (fX11_feed fu s a0 a1 a2 a3 a4 a5) := by
  refine z_D_of (lv := [vR a0, vI a1, vI a2, vI a3, vI a4, vI a5]) hst z_mX11_feed rfl ?_ (Nat.le_of_ble_eq_true rfl) rfl
  unfold fX11_feed
  refine G_aload_n (x := a0) (pc := 0) dX11_feed_0 rfl ?_
  refine G_getI (j := 12) (pc := 1) dX11_feed_1 rfl z_CLX11 (by decide) z_wX11_107 (by decide) (fun x1 => ?_)
  refine G_sipush (pc := 4) dX11_feed_4 ?_
  refine G_icmp_le (tgt := 12) (pc := 7) dX11_feed_7 ?_ ?_
  · refine G_aload_n (x := a0) (pc := 12) dX11_feed_12 rfl ?_
    refine G_iload_n (x := a1) (pc := 13) dX11_feed_13 rfl ?_
    refine G_callVN (as := [vI a1]) (st := []) (c := 11) (bc2 := 0) (bs2 := 0) (pc := 14) dX11_feed_14 z_mX11_tapeNumber z_vX11_tapeNumber z_wX11_110 (gX11_tapeNumber hst fu s a0 a1) rfl rfl (by decide) rfl rfl ⟨by decide, by decide, by decide, by decide, Nat.le_of_ble_eq_true rfl⟩ rfl (fun s2 => ?_)
    refine G_aload_n (x := a0) (pc := 17) dX11_feed_17 rfl ?_
    refine G_iload_n (x := a2) (pc := 18) dX11_feed_18 rfl ?_
    refine G_callVN (as := [vI a2]) (st := []) (c := 11) (bc2 := 0) (bs2 := 0) (pc := 19) dX11_feed_19 z_mX11_tapeNumber z_vX11_tapeNumber z_wX11_110 (gX11_tapeNumber hst fu s2 a0 a2) rfl rfl (by decide) rfl rfl ⟨by decide, by decide, by decide, by decide, Nat.le_of_ble_eq_true rfl⟩ rfl (fun s3 => ?_)
    refine G_aload_n (x := a0) (pc := 22) dX11_feed_22 rfl ?_
    refine G_iload_n (x := a3) (pc := 23) dX11_feed_23 rfl ?_
    refine G_callVN (as := [vI a3]) (st := []) (c := 11) (bc2 := 0) (bs2 := 0) (pc := 24) dX11_feed_24 z_mX11_tapeNumber z_vX11_tapeNumber z_wX11_110 (gX11_tapeNumber hst fu s3 a0 a3) rfl rfl (by decide) rfl rfl ⟨by decide, by decide, by decide, by decide, Nat.le_of_ble_eq_true rfl⟩ rfl (fun s4 => ?_)
    refine G_aload_n (x := a0) (pc := 27) dX11_feed_27 rfl ?_
    refine G_iload (x := a4) (pc := 28) dX11_feed_28 rfl ?_
    refine G_callVN (as := [vI a4]) (st := []) (c := 11) (bc2 := 0) (bs2 := 0) (pc := 30) dX11_feed_30 z_mX11_tapeNumber z_vX11_tapeNumber z_wX11_110 (gX11_tapeNumber hst fu s4 a0 a4) rfl rfl (by decide) rfl rfl ⟨by decide, by decide, by decide, by decide, Nat.le_of_ble_eq_true rfl⟩ rfl (fun s5 => ?_)
    refine G_aload_n (x := a0) (pc := 33) dX11_feed_33 rfl ?_
    refine G_iload (x := a5) (pc := 34) dX11_feed_34 rfl ?_
    refine G_callVN (as := [vI a5]) (st := []) (c := 11) (bc2 := 0) (bs2 := 0) (pc := 36) dX11_feed_36 z_mX11_tapeNumber z_vX11_tapeNumber z_wX11_110 (gX11_tapeNumber hst fu s5 a0 a5) rfl rfl (by decide) rfl rfl ⟨by decide, by decide, by decide, by decide, Nat.le_of_ble_eq_true rfl⟩ rfl (fun s6 => ?_)
    refine G_aload_n (x := a0) (pc := 39) dX11_feed_39 rfl ?_
    refine G_getI (j := 12) (pc := 40) dX11_feed_40 rfl z_CLX11 (by decide) z_wX11_107 (by decide) (fun x7 => ?_)
    exact G_iret (pc := 43) dX11_feed_43
  · refine G_iconst (pc := 10) dX11_feed_10 ?_
    exact G_iret (pc := 11) dX11_feed_11
def fX11_fault (fu : Nat) (s : z_M) (a0 : Int) : z_O := if z_ob a0 11 then z_let (s a0 13) (fun x1 => some (vI x1, s)) else none
theorem gX11_fault {l : Launch} {K : z_K} (hst : l.stackTraces = false) (fu : Nat) (s : z_M) (a0 : Int) : z_D l K mX11_fault 0 0 0 0 [vR a0] s (fX11_fault fu s a0) := by
  refine z_D_of (lv := [vR a0]) hst z_mX11_fault rfl ?_ (Nat.le_of_ble_eq_true rfl) rfl
  unfold fX11_fault
  refine G_aload_n (x := a0) (pc := 0) dX11_fault_0 rfl ?_
  refine G_getI (j := 13) (pc := 1) dX11_fault_1 rfl z_CLX11 (by decide) z_wX11_99 (by decide) (fun x1 => ?_)
  exact G_iret (pc := 4) dX11_fault_4
def fX2_place_J32 (fu : Nat) (s : z_M) (t0 : Int) : z_O := some (vR t0, s)
theorem gX2_place_J32 {l : Launch} {K : z_K} (hst : l.stackTraces = false) (fu : Nat) (s : z_M) (t0 : Int) : G l K mX2_place 0 0 0 0 32 [vU] [vR t0] s (fX2_place_J32 fu s t0) := by
  unfold fX2_place_J32
  exact G_aret (pc := 32) dX2_place_32
def fX2_place_J31 (fu : Nat) (s : z_M) : z_O := fX2_place_J32 fu s 0
theorem gX2_place_J31 {l : Launch} {K : z_K} (hst : l.stackTraces = false) (fu : Nat) (s : z_M) : G l K mX2_place 0 0 0 0 31 [vU] [] s (fX2_place_J31 fu s) := by
  unfold fX2_place_J31
  refine G_null (pc := 31) dX2_place_31 ?_
  exact gX2_place_J32 hst fu s 0
def fX2_place (fu : Nat) (s : z_M) (a0 : Int) : z_O := if z_ob a0 2 then z_let (s a0 1) (fun x1 => if (x1 : Int) < 0 then (fX2_place_J31 fu s) else (if z_ob a0 2 then z_let (s a0 1) (fun x2 => if z_ob a0 2 then z_let (z_gr a0 0) (fun x3 => if z_ob x3 104 ∧ z_I ((z_sh x3).2 : Nat) then z_let (((z_sh x3).2 : Nat) : Int) (fun x4 => if (x4 : Int) ≤ x2 then (fX2_place_J31 fu s) else (if z_ob a0 2 then z_let (z_gr a0 0) (fun x5 => if z_ob a0 2 then z_let (s a0 1) (fun x6 => if z_ix x5 104 x6 then z_let (z_gr x5 x6) (fun x7 => fX2_place_J32 fu s x7) else none) else none) else none)) else none) else none) else none)) else none
theorem gX2_place {l : Launch} {K : z_K} (hst : l.stackTraces = false) (fu : Nat) (s : z_M) (a0 : Int) : z_D l K mX2_place 0 0 0 0 [vR a0] s (fX2_place fu s a0) := by
  refine z_D_of (lv := [vR a0]) hst z_mX2_place rfl ?_ (Nat.le_of_ble_eq_true rfl) rfl
  unfold fX2_place
  refine G_aload_n (x := a0) (pc := 0) dX2_place_0 rfl ?_
  refine G_getI (j := 1) (pc := 1) dX2_place_1 rfl z_CLX2 (by decide) z_wX2_18 (by decide) (fun x1 => ?_)
  refine G_if_lt (tgt := 31) (pc := 4) dX2_place_4 ?_ ?_
  · refine G_fg (lv2 := [vU]) ⟨Or.inl rfl, trivial⟩ ?_
    exact gX2_place_J31 hst fu s
  · refine G_aload_n (x := a0) (pc := 7) dX2_place_7 rfl ?_
    refine G_getI (j := 1) (pc := 8) dX2_place_8 rfl z_CLX2 (by decide) z_wX2_18 (by decide) (fun x2 => ?_)
    refine G_aload_n (x := a0) (pc := 11) dX2_place_11 rfl ?_
    refine G_getR (j := 0) (pc := 12) dX2_place_12 rfl z_CLX2 (by decide) z_wX2_11 (by decide) (fun x3 => ?_)
    refine G_alen104 (pc := 15) dX2_place_15 (fun x4 => ?_)
    refine G_icmp_ge (tgt := 31) (pc := 16) dX2_place_16 ?_ ?_
    · refine G_fg (lv2 := [vU]) ⟨Or.inl rfl, trivial⟩ ?_
      exact gX2_place_J31 hst fu s
    · refine G_aload_n (x := a0) (pc := 19) dX2_place_19 rfl ?_
      refine G_getR (j := 0) (pc := 20) dX2_place_20 rfl z_CLX2 (by decide) z_wX2_11 (by decide) (fun x5 => ?_)
      refine G_aload_n (x := a0) (pc := 23) dX2_place_23 rfl ?_
      refine G_getI (j := 1) (pc := 24) dX2_place_24 rfl z_CLX2 (by decide) z_wX2_18 (by decide) (fun x6 => ?_)
      refine G_aald104 (pc := 27) dX2_place_27 (fun x7 => ?_)
      refine G_goto (tgt := 32) (pc := 28) dX2_place_28 ?_
      refine G_fg (lv2 := [vU]) ⟨Or.inl rfl, trivial⟩ ?_
      exact gX2_place_J32 hst fu s x7
def fX7_get_J23 (fu : Nat) (s : z_M) (t0 : Int) : z_O := some (vI t0, s)
theorem gX7_get_J23 {l : Launch} {K : z_K} (hst : l.stackTraces = false) (fu : Nat) (s : z_M) (t0 : Int) : G l K mX7_get 0 0 0 0 23 [vU, vU] [vI t0] s (fX7_get_J23 fu s t0) := by
  unfold fX7_get_J23
  exact G_iret (pc := 23) dX7_get_23
def fX7_get_J22 (fu : Nat) (s : z_M) : z_O := fX7_get_J23 fu s 0
theorem gX7_get_J22 {l : Launch} {K : z_K} (hst : l.stackTraces = false) (fu : Nat) (s : z_M) : G l K mX7_get 0 0 0 0 22 [vU, vU] [] s (fX7_get_J22 fu s) := by
  unfold fX7_get_J22
  refine G_iconst (pc := 22) dX7_get_22 ?_
  exact gX7_get_J23 hst fu s 0
def fX7_get (fu : Nat) (s : z_M) (a0 : Int) (a1 : Int) : z_O := if (a1 : Int) < 0 then (fX7_get_J22 fu s) else (if z_ob a0 7 then z_let (z_gr a0 0) (fun x1 => if z_ob x1 100 ∧ z_I ((z_sh x1).2 : Nat) then z_let (((z_sh x1).2 : Nat) : Int) (fun x2 => if (x2 : Int) ≤ a1 then (fX7_get_J22 fu s) else (if z_ob a0 7 then z_let (z_gr a0 0) (fun x3 => if z_ix x3 100 a1 then z_let (s x3 a1) (fun x4 => fX7_get_J23 fu s x4) else none) else none)) else none) else none)
theorem gX7_get {l : Launch} {K : z_K} (hst : l.stackTraces = false) (fu : Nat) (s : z_M) (a0 : Int) (a1 : Int) : z_D l K mX7_get 0 0 0 0 [vR a0, vI a1] s (fX7_get fu s a0 a1) := by
  refine z_D_of (lv := [vR a0, vI a1]) hst z_mX7_get rfl ?_ (Nat.le_of_ble_eq_true rfl) rfl
  unfold fX7_get
  refine G_iload_n (x := a1) (pc := 0) dX7_get_0 rfl ?_
  refine G_if_lt (tgt := 22) (pc := 1) dX7_get_1 ?_ ?_
  · refine G_fg (lv2 := [vU, vU]) ⟨Or.inl rfl, Or.inl rfl, trivial⟩ ?_
    exact gX7_get_J22 hst fu s
  · refine G_iload_n (x := a1) (pc := 4) dX7_get_4 rfl ?_
    refine G_aload_n (x := a0) (pc := 5) dX7_get_5 rfl ?_
    refine G_getR (j := 0) (pc := 6) dX7_get_6 rfl z_CLX7 (by decide) z_wX7_7 (by decide) (fun x1 => ?_)
    refine G_alen100 (pc := 9) dX7_get_9 (fun x2 => ?_)
    refine G_icmp_ge (tgt := 22) (pc := 10) dX7_get_10 ?_ ?_
    · refine G_fg (lv2 := [vU, vU]) ⟨Or.inl rfl, Or.inl rfl, trivial⟩ ?_
      exact gX7_get_J22 hst fu s
    · refine G_aload_n (x := a0) (pc := 13) dX7_get_13 rfl ?_
      refine G_getR (j := 0) (pc := 14) dX7_get_14 rfl z_CLX7 (by decide) z_wX7_7 (by decide) (fun x3 => ?_)
      refine G_iload_n (x := a1) (pc := 17) dX7_get_17 rfl ?_
      refine G_iald (pc := 18) dX7_get_18 (fun x4 => ?_)
      refine G_goto (tgt := 23) (pc := 19) dX7_get_19 ?_
      refine G_fg (lv2 := [vU, vU]) ⟨Or.inl rfl, Or.inl rfl, trivial⟩ ?_
      exact gX7_get_J23 hst fu s x4
def fX7_copyFrom_L2 (fu : Nat) (a0 : Int) (a1 : Int) (a2 : Int) : Nat → z_M → Int → (z_M → z_O) → z_O
  | 0, _, _, _ => none
  | F + 1, s, a3, k => if (a2 : Int) ≤ a3 then (k s) else (if z_ob a1 7 then z_bI (fX7_get fu s a1 a3) (fun x2 s1 => if z_ob a0 7 then z_bN (fX7_put fu s1 a0 a3 x2) (fun s3 => z_let (z_w (a3 + 1)) (fun x4 => fX7_copyFrom_L2 fu a0 a1 a2 F s3 x4 k)) else none) else none)
theorem gX7_copyFrom_L2 {l : Launch} {K : z_K} (hst : l.stackTraces = false) (fu : Nat) (a0 : Int) (a1 : Int) (a2 : Int) (k : z_M → z_O) (hk : ∀ (s : z_M), G l K mX7_copyFrom 1 22 0 0 23 [vU, vU, vU, vU] [] s (k s)) : ∀ (F : Nat) (s : z_M) (a3 : Int), G l K mX7_copyFrom 1 22 0 0 2 [vR a0, vR a1, vI a2, vI a3] [] s (fX7_copyFrom_L2 fu a0 a1 a2 F s a3 k) := by
  intro F
  induction F with
  | zero => exact fun s a3 h => absurd rfl h
  | succ F ih =>
    intro s a3
    rw [fX7_copyFrom_L2]
    refine G_iload_n (x := a3) (pc := 2) dX7_copyFrom_2 rfl ?_
    refine G_iload_n (x := a2) (pc := 3) dX7_copyFrom_3 rfl ?_
    refine G_icmp_ge (tgt := 23) (pc := 4) dX7_copyFrom_4 ?_ ?_
    · refine G_fg (lv2 := [vU, vU, vU, vU]) ⟨Or.inl rfl, Or.inl rfl, Or.inl rfl, Or.inl rfl, trivial⟩ ?_
      exact hk s
    · refine G_aload_n (x := a0) (pc := 7) dX7_copyFrom_7 rfl ?_
      refine G_iload_n (x := a3) (pc := 8) dX7_copyFrom_8 rfl ?_
      refine G_aload_n (x := a1) (pc := 9) dX7_copyFrom_9 rfl ?_
      refine G_iload_n (x := a3) (pc := 10) dX7_copyFrom_10 rfl ?_
      refine G_callVI (as := [vI a3]) (st := [vI a3, vR a0]) (c := 7) (bc2 := 0) (bs2 := 0) (pc := 11) dX7_copyFrom_11 z_mX7_get z_vX7_get z_wX7_17 (gX7_get hst fu s a1 a3) rfl rfl (by decide) rfl rfl ⟨by decide, by decide, by decide, by decide, Nat.le_of_ble_eq_true rfl⟩ rfl (fun x2 s1 => ?_)
      refine G_callVN (as := [vI a3, vI x2]) (st := []) (c := 7) (bc2 := 0) (bs2 := 0) (pc := 14) dX7_copyFrom_14 z_mX7_put z_vX7_put z_wX7_13 (gX7_put hst fu s1 a0 a3 x2) rfl rfl (by decide) rfl rfl ⟨by decide, by decide, by decide, by decide, Nat.le_of_ble_eq_true rfl⟩ rfl (fun s3 => ?_)
      refine G_iinc (x := a3) (g := fun x4 => [vR a0, vR a1, vI a2, vI x4]) (pc := 17) dX7_copyFrom_17 rfl (fun _ => rfl) (fun x4 => ?_)
      refine G_goto (tgt := 2) (pc := 20) dX7_copyFrom_20 ?_
      exact ih s3 x4
def fX7_copyFrom (fu : Nat) (s : z_M) (a0 : Int) (a1 : Int) (a2 : Int) : z_O := fX7_copyFrom_L2 fu a0 a1 a2 fu s 0 (fun s5 => some (vN, s5))
theorem gX7_copyFrom {l : Launch} {K : z_K} (hst : l.stackTraces = false) (fu : Nat) (s : z_M) (a0 : Int) (a1 : Int) (a2 : Int) : z_D l K mX7_copyFrom 1 22 0 0 [vR a0, vR a1, vI a2] s (fX7_copyFrom fu s a0 a1 a2) := by
  refine z_D_of (lv := [vR a0, vR a1, vI a2, vU]) hst z_mX7_copyFrom rfl ?_ (Nat.le_of_ble_eq_true rfl) rfl
  unfold fX7_copyFrom
  refine G_iconst (pc := 0) dX7_copyFrom_0 ?_
  refine G_istore_n (lv' := [vR a0, vR a1, vI a2, vI 0]) (pc := 1) dX7_copyFrom_1 rfl ?_
  refine gX7_copyFrom_L2 hst fu a0 a1 a2 _ (fun s5 => ?_) fu s 0
  exact G_vret (pc := 23) dX7_copyFrom_23
def fX4_get_J23 (fu : Nat) (s : z_M) (t0 : Int) : z_O := some (vL t0, s)
theorem gX4_get_J23 {l : Launch} {K : z_K} (hst : l.stackTraces = false) (fu : Nat) (s : z_M) (t0 : Int) : G l K mX4_get 0 0 0 0 23 [vU, vU] [vL t0] s (fX4_get_J23 fu s t0) := by
  unfold fX4_get_J23
  exact G_lret (pc := 23) dX4_get_23
def fX4_get_J22 (fu : Nat) (s : z_M) : z_O := fX4_get_J23 fu s 0
theorem gX4_get_J22 {l : Launch} {K : z_K} (hst : l.stackTraces = false) (fu : Nat) (s : z_M) : G l K mX4_get 0 0 0 0 22 [vU, vU] [] s (fX4_get_J22 fu s) := by
  unfold fX4_get_J22
  refine G_lconst (y := 0) (pc := 22) dX4_get_22 ?_
  exact gX4_get_J23 hst fu s 0
def fX4_get (fu : Nat) (s : z_M) (a0 : Int) (a1 : Int) : z_O := if (a1 : Int) < 0 then (fX4_get_J22 fu s) else (if z_ob a0 4 then z_let (z_gr a0 0) (fun x1 => if z_ob x1 101 ∧ z_I ((z_sh x1).2 : Nat) then z_let (((z_sh x1).2 : Nat) : Int) (fun x2 => if (x2 : Int) ≤ a1 then (fX4_get_J22 fu s) else (if z_ob a0 4 then z_let (z_gr a0 0) (fun x3 => if z_ix x3 101 a1 then z_let (s x3 a1) (fun x4 => fX4_get_J23 fu s x4) else none) else none)) else none) else none)
theorem gX4_get {l : Launch} {K : z_K} (hst : l.stackTraces = false) (fu : Nat) (s : z_M) (a0 : Int) (a1 : Int) : z_D l K mX4_get 0 0 0 0 [vR a0, vI a1] s (fX4_get fu s a0 a1) := by
  refine z_D_of (lv := [vR a0, vI a1]) hst z_mX4_get rfl ?_ (Nat.le_of_ble_eq_true rfl) rfl
  unfold fX4_get
  refine G_iload_n (x := a1) (pc := 0) dX4_get_0 rfl ?_
  refine G_if_lt (tgt := 22) (pc := 1) dX4_get_1 ?_ ?_
  · refine G_fg (lv2 := [vU, vU]) ⟨Or.inl rfl, Or.inl rfl, trivial⟩ ?_
    exact gX4_get_J22 hst fu s
  · refine G_iload_n (x := a1) (pc := 4) dX4_get_4 rfl ?_
    refine G_aload_n (x := a0) (pc := 5) dX4_get_5 rfl ?_
    refine G_getR (j := 0) (pc := 6) dX4_get_6 rfl z_CLX4 (by decide) z_wX4_7 (by decide) (fun x1 => ?_)
    refine G_alen101 (pc := 9) dX4_get_9 (fun x2 => ?_)
    refine G_icmp_ge (tgt := 22) (pc := 10) dX4_get_10 ?_ ?_
    · refine G_fg (lv2 := [vU, vU]) ⟨Or.inl rfl, Or.inl rfl, trivial⟩ ?_
      exact gX4_get_J22 hst fu s
    · refine G_aload_n (x := a0) (pc := 13) dX4_get_13 rfl ?_
      refine G_getR (j := 0) (pc := 14) dX4_get_14 rfl z_CLX4 (by decide) z_wX4_7 (by decide) (fun x3 => ?_)
      refine G_iload_n (x := a1) (pc := 17) dX4_get_17 rfl ?_
      refine G_lald (pc := 18) dX4_get_18 (fun x4 => ?_)
      refine G_goto (tgt := 23) (pc := 19) dX4_get_19 ?_
      refine G_fg (lv2 := [vU, vU]) ⟨Or.inl rfl, Or.inl rfl, trivial⟩ ?_
      exact gX4_get_J23 hst fu s x4
def fX4_put_J20 (fu : Nat) (s : z_M) : z_O := some (vN, s)
theorem gX4_put_J20 {l : Launch} {K : z_K} (hst : l.stackTraces = false) (fu : Nat) (s : z_M) : G l K mX4_put 0 0 0 0 20 [vU, vU, vU, vU] [] s (fX4_put_J20 fu s) := by
  unfold fX4_put_J20
  exact G_vret (pc := 20) dX4_put_20
def fX4_put (fu : Nat) (s : z_M) (a0 : Int) (a1 : Int) (a2 : Int) : z_O := if (a1 : Int) < 0 then (fX4_put_J20 fu s) else (if z_ob a0 4 then z_let (z_gr a0 0) (fun x1 => if z_ob x1 101 ∧ z_I ((z_sh x1).2 : Nat) then z_let (((z_sh x1).2 : Nat) : Int) (fun x2 => if (x2 : Int) ≤ a1 then (fX4_put_J20 fu s) else (if z_ob a0 4 then z_let (z_gr a0 0) (fun x3 => if z_ix x3 101 a1 then z_let (z_up s x3 a1 a2) (fun s4 => fX4_put_J20 fu s4) else none) else none)) else none) else none)
theorem gX4_put {l : Launch} {K : z_K} (hst : l.stackTraces = false) (fu : Nat) (s : z_M) (a0 : Int) (a1 : Int) (a2 : Int) : z_D l K mX4_put 0 0 0 0 [vR a0, vI a1, vL a2] s (fX4_put fu s a0 a1 a2) := by
  refine z_D_of (lv := [vR a0, vI a1, vL a2, vU]) hst z_mX4_put rfl ?_ (Nat.le_of_ble_eq_true rfl) rfl
  unfold fX4_put
  refine G_iload_n (x := a1) (pc := 0) dX4_put_0 rfl ?_
  refine G_if_lt (tgt := 20) (pc := 1) dX4_put_1 ?_ ?_
  · refine G_fg (lv2 := [vU, vU, vU, vU]) ⟨Or.inl rfl, Or.inl rfl, Or.inl rfl, Or.inl rfl, trivial⟩ ?_
    exact gX4_put_J20 hst fu s
  · refine G_iload_n (x := a1) (pc := 4) dX4_put_4 rfl ?_
    refine G_aload_n (x := a0) (pc := 5) dX4_put_5 rfl ?_
    refine G_getR (j := 0) (pc := 6) dX4_put_6 rfl z_CLX4 (by decide) z_wX4_7 (by decide) (fun x1 => ?_)
    refine G_alen101 (pc := 9) dX4_put_9 (fun x2 => ?_)
    refine G_icmp_ge (tgt := 20) (pc := 10) dX4_put_10 ?_ ?_
    · refine G_fg (lv2 := [vU, vU, vU, vU]) ⟨Or.inl rfl, Or.inl rfl, Or.inl rfl, Or.inl rfl, trivial⟩ ?_
      exact gX4_put_J20 hst fu s
    · refine G_aload_n (x := a0) (pc := 13) dX4_put_13 rfl ?_
      refine G_getR (j := 0) (pc := 14) dX4_put_14 rfl z_CLX4 (by decide) z_wX4_7 (by decide) (fun x3 => ?_)
      refine G_iload_n (x := a1) (pc := 17) dX4_put_17 rfl ?_
      refine G_lload_n (x := a2) (pc := 18) dX4_put_18 rfl ?_
      refine G_last (pc := 19) dX4_put_19 (fun s4 => ?_)
      refine G_fg (lv2 := [vU, vU, vU, vU]) ⟨Or.inl rfl, Or.inl rfl, Or.inl rfl, Or.inl rfl, trivial⟩ ?_
      exact gX4_put_J20 hst fu s4
def fX4_copyFrom_L2 (fu : Nat) (a0 : Int) (a1 : Int) (a2 : Int) : Nat → z_M → Int → (z_M → z_O) → z_O
  | 0, _, _, _ => none
  | F + 1, s, a3, k => if (a2 : Int) ≤ a3 then (k s) else (if z_ob a1 4 then z_bL (fX4_get fu s a1 a3) (fun x2 s1 => if z_ob a0 4 then z_bN (fX4_put fu s1 a0 a3 x2) (fun s3 => z_let (z_w (a3 + 1)) (fun x4 => fX4_copyFrom_L2 fu a0 a1 a2 F s3 x4 k)) else none) else none)
theorem gX4_copyFrom_L2 {l : Launch} {K : z_K} (hst : l.stackTraces = false) (fu : Nat) (a0 : Int) (a1 : Int) (a2 : Int) (k : z_M → z_O) (hk : ∀ (s : z_M), G l K mX4_copyFrom 1 23 0 0 23 [vU, vU, vU, vU] [] s (k s)) : ∀ (F : Nat) (s : z_M) (a3 : Int), G l K mX4_copyFrom 1 23 0 0 2 [vR a0, vR a1, vI a2, vI a3] [] s (fX4_copyFrom_L2 fu a0 a1 a2 F s a3 k) := by
  intro F
  induction F with
  | zero => exact fun s a3 h => absurd rfl h
  | succ F ih =>
    intro s a3
    rw [fX4_copyFrom_L2]
    refine G_iload_n (x := a3) (pc := 2) dX4_copyFrom_2 rfl ?_
    refine G_iload_n (x := a2) (pc := 3) dX4_copyFrom_3 rfl ?_
    refine G_icmp_ge (tgt := 23) (pc := 4) dX4_copyFrom_4 ?_ ?_
    · refine G_fg (lv2 := [vU, vU, vU, vU]) ⟨Or.inl rfl, Or.inl rfl, Or.inl rfl, Or.inl rfl, trivial⟩ ?_
      exact hk s
    · refine G_aload_n (x := a0) (pc := 7) dX4_copyFrom_7 rfl ?_
      refine G_iload_n (x := a3) (pc := 8) dX4_copyFrom_8 rfl ?_
      refine G_aload_n (x := a1) (pc := 9) dX4_copyFrom_9 rfl ?_
      refine G_iload_n (x := a3) (pc := 10) dX4_copyFrom_10 rfl ?_
      refine G_callVL (as := [vI a3]) (st := [vI a3, vR a0]) (c := 4) (bc2 := 0) (bs2 := 0) (pc := 11) dX4_copyFrom_11 z_mX4_get z_vX4_get z_wX4_13 (gX4_get hst fu s a1 a3) rfl rfl (by decide) rfl rfl ⟨by decide, by decide, by decide, by decide, Nat.le_of_ble_eq_true rfl⟩ rfl (fun x2 s1 => ?_)
      refine G_callVN (as := [vI a3, vL x2]) (st := []) (c := 4) (bc2 := 0) (bs2 := 0) (pc := 14) dX4_copyFrom_14 z_mX4_put z_vX4_put z_wX4_17 (gX4_put hst fu s1 a0 a3 x2) rfl rfl (by decide) rfl rfl ⟨by decide, by decide, by decide, by decide, Nat.le_of_ble_eq_true rfl⟩ rfl (fun s3 => ?_)
      refine G_iinc (x := a3) (g := fun x4 => [vR a0, vR a1, vI a2, vI x4]) (pc := 17) dX4_copyFrom_17 rfl (fun _ => rfl) (fun x4 => ?_)
      refine G_goto (tgt := 2) (pc := 20) dX4_copyFrom_20 ?_
      exact ih s3 x4
def fX4_copyFrom (fu : Nat) (s : z_M) (a0 : Int) (a1 : Int) (a2 : Int) : z_O := fX4_copyFrom_L2 fu a0 a1 a2 fu s 0 (fun s5 => some (vN, s5))
theorem gX4_copyFrom {l : Launch} {K : z_K} (hst : l.stackTraces = false) (fu : Nat) (s : z_M) (a0 : Int) (a1 : Int) (a2 : Int) : z_D l K mX4_copyFrom 1 23 0 0 [vR a0, vR a1, vI a2] s (fX4_copyFrom fu s a0 a1 a2) := by
  refine z_D_of (lv := [vR a0, vR a1, vI a2, vU]) hst z_mX4_copyFrom rfl ?_ (Nat.le_of_ble_eq_true rfl) rfl
  unfold fX4_copyFrom
  refine G_iconst (pc := 0) dX4_copyFrom_0 ?_
  refine G_istore_n (lv' := [vR a0, vR a1, vI a2, vI 0]) (pc := 1) dX4_copyFrom_1 rfl ?_
  refine gX4_copyFrom_L2 hst fu a0 a1 a2 _ (fun s5 => ?_) fu s 0
  exact G_vret (pc := 23) dX4_copyFrom_23
def fX9_copyFrom (fu : Nat) (s : z_M) (a0 : Int) (a1 : Int) : z_O := if z_ob a1 9 then z_let (s a1 6) (fun x1 => if z_ob a0 9 then z_let (z_up s a0 6 x1) (fun s2 => if z_ob a1 9 then z_let (s2 a1 7) (fun x3 => if z_ob a0 9 then z_let (z_up s2 a0 7 x3) (fun s4 => if z_ob a1 9 then z_let (s4 a1 8) (fun x5 => if z_ob a0 9 then z_let (z_up s4 a0 8 x5) (fun s6 => if z_ob a0 9 then z_let (z_gr a0 0) (fun x7 => if z_ob a1 9 then z_let (z_gr a1 0) (fun x8 => if z_ob a0 9 then z_let (s6 a0 6) (fun x9 => if z_ob x7 7 then z_bN (fX7_copyFrom fu s6 x7 x8 x9) (fun s10 => if z_ob a0 9 then z_let (z_gr a0 1) (fun x11 => if z_ob a1 9 then z_let (z_gr a1 1) (fun x12 => if z_ob a0 9 then z_let (s10 a0 6) (fun x13 => if z_ob x11 7 then z_bN (fX7_copyFrom fu s10 x11 x12 x13) (fun s14 => if z_ob a0 9 then z_let (z_gr a0 2) (fun x15 => if z_ob a1 9 then z_let (z_gr a1 2) (fun x16 => if z_ob a0 9 then z_let (s14 a0 6) (fun x17 => if z_ob x15 7 then z_bN (fX7_copyFrom fu s14 x15 x16 x17) (fun s18 => if z_ob a0 9 then z_let (z_gr a0 3) (fun x19 => if z_ob a1 9 then z_let (z_gr a1 3) (fun x20 => if z_ob a0 9 then z_let (s18 a0 6) (fun x21 => if z_ob x19 7 then z_bN (fX7_copyFrom fu s18 x19 x20 x21) (fun s22 => if z_ob a0 9 then z_let (z_gr a0 4) (fun x23 => if z_ob a1 9 then z_let (z_gr a1 4) (fun x24 => if z_ob a0 9 then z_let (s22 a0 6) (fun x25 => if z_ob x23 4 then z_bN (fX4_copyFrom fu s22 x23 x24 x25) (fun s26 => if z_ob a0 9 then z_let (z_gr a0 5) (fun x27 => if z_ob a1 9 then z_let (z_gr a1 5) (fun x28 => if z_ob a0 9 then z_let (s26 a0 6) (fun x29 => if z_ob x27 4 then z_bN (fX4_copyFrom fu s26 x27 x28 x29) (fun s30 => some (vN, s30)) else none) else none) else none) else none) else none) else none) else none) else none) else none) else none) else none) else none) else none) else none) else none) else none) else none) else none) else none) else none) else none) else none) else none) else none) else none) else none) else none) else none) else none) else none
theorem gX9_copyFrom {l : Launch} {K : z_K} (hst : l.stackTraces = false) (fu : Nat) (s : z_M) (a0 : Int) (a1 : Int) : z_D l K mX9_copyFrom 2 46 0 0 [vR a0, vR a1] s (fX9_copyFrom fu s a0 a1) := by
  refine z_D_of (lv := [vR a0, vR a1]) hst z_mX9_copyFrom rfl ?_ (Nat.le_of_ble_eq_true rfl) rfl
  unfold fX9_copyFrom
  refine G_aload_n (x := a0) (pc := 0) dX9_copyFrom_0 rfl ?_
  refine G_aload_n (x := a1) (pc := 1) dX9_copyFrom_1 rfl ?_
  refine G_getI (j := 6) (pc := 2) dX9_copyFrom_2 rfl z_CLX9 (by decide) z_wX9_39 (by decide) (fun x1 => ?_)
  refine G_putI (j := 6) (pc := 5) dX9_copyFrom_5 rfl z_CLX9 (by decide) z_wX9_39 rfl (by decide) (by decide) (fun s2 => ?_)
  refine G_aload_n (x := a0) (pc := 8) dX9_copyFrom_8 rfl ?_
  refine G_aload_n (x := a1) (pc := 9) dX9_copyFrom_9 rfl ?_
  refine G_getI (j := 7) (pc := 10) dX9_copyFrom_10 rfl z_CLX9 (by decide) z_wX9_43 (by decide) (fun x3 => ?_)
  refine G_putI (j := 7) (pc := 13) dX9_copyFrom_13 rfl z_CLX9 (by decide) z_wX9_43 rfl (by decide) (by decide) (fun s4 => ?_)
  refine G_aload_n (x := a0) (pc := 16) dX9_copyFrom_16 rfl ?_
  refine G_aload_n (x := a1) (pc := 17) dX9_copyFrom_17 rfl ?_
  refine G_getI (j := 8) (pc := 18) dX9_copyFrom_18 rfl z_CLX9 (by decide) z_wX9_46 (by decide) (fun x5 => ?_)
  refine G_putI (j := 8) (pc := 21) dX9_copyFrom_21 rfl z_CLX9 (by decide) z_wX9_46 rfl (by decide) (by decide) (fun s6 => ?_)
  refine G_aload_n (x := a0) (pc := 24) dX9_copyFrom_24 rfl ?_
  refine G_getR (j := 0) (pc := 25) dX9_copyFrom_25 rfl z_CLX9 (by decide) z_wX9_14 (by decide) (fun x7 => ?_)
  refine G_aload_n (x := a1) (pc := 28) dX9_copyFrom_28 rfl ?_
  refine G_getR (j := 0) (pc := 29) dX9_copyFrom_29 rfl z_CLX9 (by decide) z_wX9_14 (by decide) (fun x8 => ?_)
  refine G_aload_n (x := a0) (pc := 32) dX9_copyFrom_32 rfl ?_
  refine G_getI (j := 6) (pc := 33) dX9_copyFrom_33 rfl z_CLX9 (by decide) z_wX9_39 (by decide) (fun x9 => ?_)
  refine G_callVN (as := [vR x8, vI x9]) (st := []) (c := 7) (bc2 := 0) (bs2 := 0) (pc := 36) dX9_copyFrom_36 z_mX7_copyFrom z_vX7_copyFrom z_wX9_49 (gX7_copyFrom hst fu s6 x7 x8 x9) rfl rfl (by decide) rfl rfl ⟨by decide, by decide, by decide, by decide, Nat.le_of_ble_eq_true rfl⟩ rfl (fun s10 => ?_)
  refine G_aload_n (x := a0) (pc := 39) dX9_copyFrom_39 rfl ?_
  refine G_getR (j := 1) (pc := 40) dX9_copyFrom_40 rfl z_CLX9 (by decide) z_wX9_20 (by decide) (fun x11 => ?_)
  refine G_aload_n (x := a1) (pc := 43) dX9_copyFrom_43 rfl ?_
  refine G_getR (j := 1) (pc := 44) dX9_copyFrom_44 rfl z_CLX9 (by decide) z_wX9_20 (by decide) (fun x12 => ?_)
  refine G_aload_n (x := a0) (pc := 47) dX9_copyFrom_47 rfl ?_
  refine G_getI (j := 6) (pc := 48) dX9_copyFrom_48 rfl z_CLX9 (by decide) z_wX9_39 (by decide) (fun x13 => ?_)
  refine G_callVN (as := [vR x12, vI x13]) (st := []) (c := 7) (bc2 := 0) (bs2 := 0) (pc := 51) dX9_copyFrom_51 z_mX7_copyFrom z_vX7_copyFrom z_wX9_49 (gX7_copyFrom hst fu s10 x11 x12 x13) rfl rfl (by decide) rfl rfl ⟨by decide, by decide, by decide, by decide, Nat.le_of_ble_eq_true rfl⟩ rfl (fun s14 => ?_)
  refine G_aload_n (x := a0) (pc := 54) dX9_copyFrom_54 rfl ?_
  refine G_getR (j := 2) (pc := 55) dX9_copyFrom_55 rfl z_CLX9 (by decide) z_wX9_23 (by decide) (fun x15 => ?_)
  refine G_aload_n (x := a1) (pc := 58) dX9_copyFrom_58 rfl ?_
  refine G_getR (j := 2) (pc := 59) dX9_copyFrom_59 rfl z_CLX9 (by decide) z_wX9_23 (by decide) (fun x16 => ?_)
  refine G_aload_n (x := a0) (pc := 62) dX9_copyFrom_62 rfl ?_
  refine G_getI (j := 6) (pc := 63) dX9_copyFrom_63 rfl z_CLX9 (by decide) z_wX9_39 (by decide) (fun x17 => ?_)
  refine G_callVN (as := [vR x16, vI x17]) (st := []) (c := 7) (bc2 := 0) (bs2 := 0) (pc := 66) dX9_copyFrom_66 z_mX7_copyFrom z_vX7_copyFrom z_wX9_49 (gX7_copyFrom hst fu s14 x15 x16 x17) rfl rfl (by decide) rfl rfl ⟨by decide, by decide, by decide, by decide, Nat.le_of_ble_eq_true rfl⟩ rfl (fun s18 => ?_)
  refine G_aload_n (x := a0) (pc := 69) dX9_copyFrom_69 rfl ?_
  refine G_getR (j := 3) (pc := 70) dX9_copyFrom_70 rfl z_CLX9 (by decide) z_wX9_26 (by decide) (fun x19 => ?_)
  refine G_aload_n (x := a1) (pc := 73) dX9_copyFrom_73 rfl ?_
  refine G_getR (j := 3) (pc := 74) dX9_copyFrom_74 rfl z_CLX9 (by decide) z_wX9_26 (by decide) (fun x20 => ?_)
  refine G_aload_n (x := a0) (pc := 77) dX9_copyFrom_77 rfl ?_
  refine G_getI (j := 6) (pc := 78) dX9_copyFrom_78 rfl z_CLX9 (by decide) z_wX9_39 (by decide) (fun x21 => ?_)
  refine G_callVN (as := [vR x20, vI x21]) (st := []) (c := 7) (bc2 := 0) (bs2 := 0) (pc := 81) dX9_copyFrom_81 z_mX7_copyFrom z_vX7_copyFrom z_wX9_49 (gX7_copyFrom hst fu s18 x19 x20 x21) rfl rfl (by decide) rfl rfl ⟨by decide, by decide, by decide, by decide, Nat.le_of_ble_eq_true rfl⟩ rfl (fun s22 => ?_)
  refine G_aload_n (x := a0) (pc := 84) dX9_copyFrom_84 rfl ?_
  refine G_getR (j := 4) (pc := 85) dX9_copyFrom_85 rfl z_CLX9 (by decide) z_wX9_32 (by decide) (fun x23 => ?_)
  refine G_aload_n (x := a1) (pc := 88) dX9_copyFrom_88 rfl ?_
  refine G_getR (j := 4) (pc := 89) dX9_copyFrom_89 rfl z_CLX9 (by decide) z_wX9_32 (by decide) (fun x24 => ?_)
  refine G_aload_n (x := a0) (pc := 92) dX9_copyFrom_92 rfl ?_
  refine G_getI (j := 6) (pc := 93) dX9_copyFrom_93 rfl z_CLX9 (by decide) z_wX9_39 (by decide) (fun x25 => ?_)
  refine G_callVN (as := [vR x24, vI x25]) (st := []) (c := 4) (bc2 := 0) (bs2 := 0) (pc := 96) dX9_copyFrom_96 z_mX4_copyFrom z_vX4_copyFrom z_wX9_53 (gX4_copyFrom hst fu s22 x23 x24 x25) rfl rfl (by decide) rfl rfl ⟨by decide, by decide, by decide, by decide, Nat.le_of_ble_eq_true rfl⟩ rfl (fun s26 => ?_)
  refine G_aload_n (x := a0) (pc := 99) dX9_copyFrom_99 rfl ?_
  refine G_getR (j := 5) (pc := 100) dX9_copyFrom_100 rfl z_CLX9 (by decide) z_wX9_36 (by decide) (fun x27 => ?_)
  refine G_aload_n (x := a1) (pc := 103) dX9_copyFrom_103 rfl ?_
  refine G_getR (j := 5) (pc := 104) dX9_copyFrom_104 rfl z_CLX9 (by decide) z_wX9_36 (by decide) (fun x28 => ?_)
  refine G_aload_n (x := a0) (pc := 107) dX9_copyFrom_107 rfl ?_
  refine G_getI (j := 6) (pc := 108) dX9_copyFrom_108 rfl z_CLX9 (by decide) z_wX9_39 (by decide) (fun x29 => ?_)
  refine G_callVN (as := [vR x28, vI x29]) (st := []) (c := 4) (bc2 := 0) (bs2 := 0) (pc := 111) dX9_copyFrom_111 z_mX4_copyFrom z_vX4_copyFrom z_wX9_53 (gX4_copyFrom hst fu s26 x27 x28 x29) rfl rfl (by decide) rfl rfl ⟨by decide, by decide, by decide, by decide, Nat.le_of_ble_eq_true rfl⟩ rfl (fun s30 => ?_)
  exact G_vret (pc := 114) dX9_copyFrom_114
def fX2_takeBack_J38 (fu : Nat) (s : z_M) (a0 : Int) (a1 : Int) (t0 : Int) (t1 : Int) : z_O := if z_ob t0 2 then z_let (z_up s t0 1 t1) (fun s6 => if z_ob a0 2 then z_bR (fX2_place fu s6 a0) (fun x8 s7 => if 1 ≤ x8 then if z_ob a1 9 then z_bN (fX9_copyFrom fu s7 a1 x8) (fun s9 => if z_bl 1 then some (vI 1, s9) else none) else none else none) else none) else none
theorem gX2_takeBack_J38 {l : Launch} {K : z_K} (hst : l.stackTraces = false) (fu : Nat) (s : z_M) (a0 : Int) (a1 : Int) (t0 : Int) (t1 : Int) : G l K mX2_takeBack 3 67 0 0 38 [vR a0, vR a1, vU] [vI t1, vR t0] s (fX2_takeBack_J38 fu s a0 a1 t0 t1) := by
  unfold fX2_takeBack_J38
  refine G_putI (j := 1) (pc := 38) dX2_takeBack_38 rfl z_CLX2 (by decide) z_wX2_18 rfl (by decide) (by decide) (fun s6 => ?_)
  refine G_aload_n (x := a0) (pc := 41) dX2_takeBack_41 rfl ?_
  refine G_callVR (as := []) (st := []) (c := 2) (bc2 := 0) (bs2 := 0) (pc := 42) dX2_takeBack_42 z_mX2_place z_vX2_place z_wX2_22 (gX2_place hst fu s6 a0) rfl rfl (by decide) rfl rfl ⟨by decide, by decide, by decide, by decide, Nat.le_of_ble_eq_true rfl⟩ rfl (fun x8 s7 => ?_)
  refine G_astore_n (lv' := [vR a0, vR a1, vR x8]) (pc := 45) dX2_takeBack_45 rfl ?_
  refine G_aload_n (x := x8) (pc := 46) dX2_takeBack_46 rfl ?_
  refine G_ifnull (pc := 47) dX2_takeBack_47 ?_
  refine G_aload_n (x := a1) (pc := 50) dX2_takeBack_50 rfl ?_
  refine G_aload_n (x := x8) (pc := 51) dX2_takeBack_51 rfl ?_
  refine G_callVN (as := [vR x8]) (st := []) (c := 9) (bc2 := 0) (bs2 := 0) (pc := 52) dX2_takeBack_52 z_mX9_copyFrom z_vX9_copyFrom z_wX2_26 (gX9_copyFrom hst fu s7 a1 x8) rfl rfl (by decide) rfl rfl ⟨by decide, by decide, by decide, by decide, Nat.le_of_ble_eq_true rfl⟩ rfl (fun s9 => ?_)
  refine G_iconst (pc := 55) dX2_takeBack_55 ?_
  exact G_zret (pc := 56) dX2_takeBack_56
def fX2_takeBack (fu : Nat) (s : z_M) (a0 : Int) (a1 : Int) : z_O := if z_ob a0 2 then z_let (s a0 2) (fun x1 => if (x1 : Int) ≠ 0 then (if z_ob a0 2 then z_let (s a0 2) (fun x2 => z_let (z_w (x2 - 1)) (fun x3 => if z_ob a0 2 then z_let (z_up s a0 2 x3) (fun s4 => if z_ob a0 2 then z_let (s4 a0 1) (fun x5 => if (x5 : Int) ≤ 0 then (fX2_takeBack_J38 fu s4 a0 a1 a0 11) else (if z_ob a0 2 then z_let (s4 a0 1) (fun x10 => z_let (z_w (x10 - 1)) (fun x11 => fX2_takeBack_J38 fu s4 a0 a1 a0 x11)) else none)) else none) else none)) else none) else (if z_bl 0 then some (vI 0, s) else none)) else none
theorem gX2_takeBack {l : Launch} {K : z_K} (hst : l.stackTraces = false) (fu : Nat) (s : z_M) (a0 : Int) (a1 : Int) : z_D l K mX2_takeBack 3 67 0 0 [vR a0, vR a1] s (fX2_takeBack fu s a0 a1) := by
  refine z_D_of (lv := [vR a0, vR a1, vU]) hst z_mX2_takeBack rfl ?_ (Nat.le_of_ble_eq_true rfl) rfl
  unfold fX2_takeBack
  refine G_aload_n (x := a0) (pc := 0) dX2_takeBack_0 rfl ?_
  refine G_getI (j := 2) (pc := 1) dX2_takeBack_1 rfl z_CLX2 (by decide) z_wX2_30 (by decide) (fun x1 => ?_)
  refine G_if_ne (tgt := 9) (pc := 4) dX2_takeBack_4 ?_ ?_
  · refine G_aload_n (x := a0) (pc := 9) dX2_takeBack_9 rfl ?_
    refine G_dupR (pc := 10) dX2_takeBack_10 ?_
    refine G_getI (j := 2) (pc := 11) dX2_takeBack_11 rfl z_CLX2 (by decide) z_wX2_30 (by decide) (fun x2 => ?_)
    refine G_iconst (pc := 14) dX2_takeBack_14 ?_
    refine G_isub (pc := 15) dX2_takeBack_15 (fun x3 => ?_)
    refine G_putI (j := 2) (pc := 16) dX2_takeBack_16 rfl z_CLX2 (by decide) z_wX2_30 rfl (by decide) (by decide) (fun s4 => ?_)
    refine G_aload_n (x := a0) (pc := 19) dX2_takeBack_19 rfl ?_
    refine G_aload_n (x := a0) (pc := 20) dX2_takeBack_20 rfl ?_
    refine G_getI (j := 1) (pc := 21) dX2_takeBack_21 rfl z_CLX2 (by decide) z_wX2_18 (by decide) (fun x5 => ?_)
    refine G_if_le (tgt := 36) (pc := 24) dX2_takeBack_24 ?_ ?_
    · refine G_bipush (pc := 36) dX2_takeBack_36 ?_
      exact gX2_takeBack_J38 hst fu s4 a0 a1 a0 11
    · refine G_aload_n (x := a0) (pc := 27) dX2_takeBack_27 rfl ?_
      refine G_getI (j := 1) (pc := 28) dX2_takeBack_28 rfl z_CLX2 (by decide) z_wX2_18 (by decide) (fun x10 => ?_)
      refine G_iconst (pc := 31) dX2_takeBack_31 ?_
      refine G_isub (pc := 32) dX2_takeBack_32 (fun x11 => ?_)
      refine G_goto (tgt := 38) (pc := 33) dX2_takeBack_33 ?_
      exact gX2_takeBack_J38 hst fu s4 a0 a1 a0 x11
  · refine G_iconst (pc := 7) dX2_takeBack_7 ?_
    exact G_zret (pc := 8) dX2_takeBack_8
def fX10_kindAt_J88 (fu : Nat) (s : z_M) (t0 : Int) : z_O := some (vI t0, s)
theorem gX10_kindAt_J88 {l : Launch} {K : z_K} (hst : l.stackTraces = false) (fu : Nat) (s : z_M) (t0 : Int) : G l K mX10_kindAt 1 21 0 0 88 [vU, vU, vU] [vI t0] s (fX10_kindAt_J88 fu s t0) := by
  unfold fX10_kindAt_J88
  exact G_iret (pc := 88) dX10_kindAt_88
def fX10_kindAt_J44 (fu : Nat) (s : z_M) (a2 : Int) : z_O := if (a2 : Int) < 97 then (if (a2 : Int) < 48 then (if (a2 : Int) ≠ 40 then (if (a2 : Int) ≠ 41 then (if (a2 : Int) ≠ 32 then (fX10_kindAt_J88 fu s 3) else (fX10_kindAt_J88 fu s 6)) else (some (vI 5, s))) else (some (vI 4, s))) else (some (vI 2, s))) else (some (vI 1, s))
theorem gX10_kindAt_J44 {l : Launch} {K : z_K} (hst : l.stackTraces = false) (fu : Nat) (s : z_M) (a2 : Int) : G l K mX10_kindAt 1 21 0 0 44 [vU, vU, vI a2] [] s (fX10_kindAt_J44 fu s a2) := by
  unfold fX10_kindAt_J44
  refine G_iload_n (x := a2) (pc := 44) dX10_kindAt_44 rfl ?_
  refine G_bipush (pc := 45) dX10_kindAt_45 ?_
  refine G_icmp_lt (tgt := 52) (pc := 47) dX10_kindAt_47 ?_ ?_
  · refine G_iload_n (x := a2) (pc := 52) dX10_kindAt_52 rfl ?_
    refine G_bipush (pc := 53) dX10_kindAt_53 ?_
    refine G_icmp_lt (tgt := 60) (pc := 55) dX10_kindAt_55 ?_ ?_
    · refine G_iload_n (x := a2) (pc := 60) dX10_kindAt_60 rfl ?_
      refine G_bipush (pc := 61) dX10_kindAt_61 ?_
      refine G_icmp_ne (tgt := 68) (pc := 63) dX10_kindAt_63 ?_ ?_
      · refine G_iload_n (x := a2) (pc := 68) dX10_kindAt_68 rfl ?_
        refine G_bipush (pc := 69) dX10_kindAt_69 ?_
        refine G_icmp_ne (tgt := 76) (pc := 71) dX10_kindAt_71 ?_ ?_
        · refine G_iload_n (x := a2) (pc := 76) dX10_kindAt_76 rfl ?_
          refine G_bipush (pc := 77) dX10_kindAt_77 ?_
          refine G_icmp_ne (tgt := 87) (pc := 79) dX10_kindAt_79 ?_ ?_
          · refine G_iconst (pc := 87) dX10_kindAt_87 ?_
            refine G_fg (lv2 := [vU, vU, vU]) ⟨Or.inl rfl, Or.inl rfl, Or.inl rfl, trivial⟩ ?_
            exact gX10_kindAt_J88 hst fu s 3
          · refine G_bipush (pc := 82) dX10_kindAt_82 ?_
            refine G_goto (tgt := 88) (pc := 84) dX10_kindAt_84 ?_
            refine G_fg (lv2 := [vU, vU, vU]) ⟨Or.inl rfl, Or.inl rfl, Or.inl rfl, trivial⟩ ?_
            exact gX10_kindAt_J88 hst fu s 6
        · refine G_iconst (pc := 74) dX10_kindAt_74 ?_
          exact G_iret (pc := 75) dX10_kindAt_75
      · refine G_iconst (pc := 66) dX10_kindAt_66 ?_
        exact G_iret (pc := 67) dX10_kindAt_67
    · refine G_iconst (pc := 58) dX10_kindAt_58 ?_
      exact G_iret (pc := 59) dX10_kindAt_59
  · refine G_iconst (pc := 50) dX10_kindAt_50 ?_
    exact G_iret (pc := 51) dX10_kindAt_51
def fX10_kindAt (fu : Nat) (s : z_M) (a0 : Int) (a1 : Int) : z_O := if z_ob a0 10 then z_let (z_gr a0 0) (fun x1 => if z_ob x1 9 then z_let (z_gr x1 0) (fun x2 => if z_ob x2 7 then z_bI (fX7_get fu s x2 a1) (fun x4 s3 => if z_ob a0 10 then z_let (z_gr a0 0) (fun x5 => if z_ob x5 9 then z_let (z_gr x5 2) (fun x6 => if z_ob x6 7 then z_bI (fX7_get fu s3 x6 a1) (fun x8 s7 => if (x8 : Int) = (-1) then (if (x4 : Int) < 65 then (fX10_kindAt_J44 fu s7 x4) else (if (90 : Int) < x4 then (fX10_kindAt_J44 fu s7 x4) else (some (vI 0, s7)))) else (some (vI 7, s7))) else none) else none) else none) else none) else none) else none
theorem gX10_kindAt {l : Launch} {K : z_K} (hst : l.stackTraces = false) (fu : Nat) (s : z_M) (a0 : Int) (a1 : Int) : z_D l K mX10_kindAt 1 21 0 0 [vR a0, vI a1] s (fX10_kindAt fu s a0 a1) := by
  refine z_D_of (lv := [vR a0, vI a1, vU]) hst z_mX10_kindAt rfl ?_ (Nat.le_of_ble_eq_true rfl) rfl
  unfold fX10_kindAt
  refine G_aload_n (x := a0) (pc := 0) dX10_kindAt_0 rfl ?_
  refine G_getR (j := 0) (pc := 1) dX10_kindAt_1 rfl z_CLX10 (by decide) z_wX10_59 (by decide) (fun x1 => ?_)
  refine G_getR (j := 0) (pc := 4) dX10_kindAt_4 rfl z_CLX9 (by decide) z_wX10_112 (by decide) (fun x2 => ?_)
  refine G_iload_n (x := a1) (pc := 7) dX10_kindAt_7 rfl ?_
  refine G_callVI (as := [vI a1]) (st := []) (c := 7) (bc2 := 0) (bs2 := 0) (pc := 8) dX10_kindAt_8 z_mX7_get z_vX7_get z_wX10_109 (gX7_get hst fu s x2 a1) rfl rfl (by decide) rfl rfl ⟨by decide, by decide, by decide, by decide, Nat.le_of_ble_eq_true rfl⟩ rfl (fun x4 s3 => ?_)
  refine G_istore_n (lv' := [vR a0, vI a1, vI x4]) (pc := 11) dX10_kindAt_11 rfl ?_
  refine G_aload_n (x := a0) (pc := 12) dX10_kindAt_12 rfl ?_
  refine G_getR (j := 0) (pc := 13) dX10_kindAt_13 rfl z_CLX10 (by decide) z_wX10_59 (by decide) (fun x5 => ?_)
  refine G_getR (j := 2) (pc := 16) dX10_kindAt_16 rfl z_CLX9 (by decide) z_wX10_115 (by decide) (fun x6 => ?_)
  refine G_iload_n (x := a1) (pc := 19) dX10_kindAt_19 rfl ?_
  refine G_callVI (as := [vI a1]) (st := []) (c := 7) (bc2 := 0) (bs2 := 0) (pc := 20) dX10_kindAt_20 z_mX7_get z_vX7_get z_wX10_109 (gX7_get hst fu s3 x6 a1) rfl rfl (by decide) rfl rfl ⟨by decide, by decide, by decide, by decide, Nat.le_of_ble_eq_true rfl⟩ rfl (fun x8 s7 => ?_)
  refine G_iconst (pc := 23) dX10_kindAt_23 ?_
  refine G_icmp_eq (tgt := 30) (pc := 24) dX10_kindAt_24 ?_ ?_
  · refine G_iload_n (x := x4) (pc := 30) dX10_kindAt_30 rfl ?_
    refine G_bipush (pc := 31) dX10_kindAt_31 ?_
    refine G_icmp_lt (tgt := 44) (pc := 33) dX10_kindAt_33 ?_ ?_
    · refine G_fg (lv2 := [vU, vU, vI x4]) ⟨Or.inl rfl, Or.inl rfl, Or.inr rfl, trivial⟩ ?_
      exact gX10_kindAt_J44 hst fu s7 x4
    · refine G_iload_n (x := x4) (pc := 36) dX10_kindAt_36 rfl ?_
      refine G_bipush (pc := 37) dX10_kindAt_37 ?_
      refine G_icmp_gt (tgt := 44) (pc := 39) dX10_kindAt_39 ?_ ?_
      · refine G_fg (lv2 := [vU, vU, vI x4]) ⟨Or.inl rfl, Or.inl rfl, Or.inr rfl, trivial⟩ ?_
        exact gX10_kindAt_J44 hst fu s7 x4
      · refine G_iconst (pc := 42) dX10_kindAt_42 ?_
        exact G_iret (pc := 43) dX10_kindAt_43
  · refine G_bipush (pc := 27) dX10_kindAt_27 ?_
    exact G_iret (pc := 29) dX10_kindAt_29
def fX10_startsUnit_J63 (fu : Nat) (s : z_M) (t0 : Int) : z_O := if z_bl t0 then some (vI t0, s) else none
theorem gX10_startsUnit_J63 {l : Launch} {K : z_K} (hst : l.stackTraces = false) (fu : Nat) (s : z_M) (t0 : Int) : G l K mX10_startsUnit 2 43 0 0 63 [vU, vU, vU] [vI t0] s (fX10_startsUnit_J63 fu s t0) := by
  unfold fX10_startsUnit_J63
  exact G_zret (pc := 63) dX10_startsUnit_63
def fX10_startsUnit_J58 (fu : Nat) (s : z_M) : z_O := fX10_startsUnit_J63 fu s 1
theorem gX10_startsUnit_J58 {l : Launch} {K : z_K} (hst : l.stackTraces = false) (fu : Nat) (s : z_M) : G l K mX10_startsUnit 2 43 0 0 58 [vU, vU, vU] [] s (fX10_startsUnit_J58 fu s) := by
  unfold fX10_startsUnit_J58
  refine G_iconst (pc := 58) dX10_startsUnit_58 ?_
  refine G_goto (tgt := 63) (pc := 59) dX10_startsUnit_59 ?_
  exact gX10_startsUnit_J63 hst fu s 1
def fX10_startsUnit_J43 (fu : Nat) (s : z_M) (a0 : Int) (a1 : Int) (a2 : Int) : z_O := if (a1 : Int) = 0 then (fX10_startsUnit_J58 fu s) else (z_let (z_w (a1 - 1)) (fun x3 => if z_ob a0 10 then z_bI (fX10_kindAt fu s a0 x3) (fun x5 s4 => if (x5 : Int) = a2 then (fX10_startsUnit_J63 fu s4 0) else (fX10_startsUnit_J58 fu s4)) else none))
theorem gX10_startsUnit_J43 {l : Launch} {K : z_K} (hst : l.stackTraces = false) (fu : Nat) (s : z_M) (a0 : Int) (a1 : Int) (a2 : Int) : G l K mX10_startsUnit 2 43 0 0 43 [vR a0, vI a1, vI a2] [] s (fX10_startsUnit_J43 fu s a0 a1 a2) := by
  unfold fX10_startsUnit_J43
  refine G_iload_n (x := a1) (pc := 43) dX10_startsUnit_43 rfl ?_
  refine G_if_eq (tgt := 58) (pc := 44) dX10_startsUnit_44 ?_ ?_
  · refine G_fg (lv2 := [vU, vU, vU]) ⟨Or.inl rfl, Or.inl rfl, Or.inl rfl, trivial⟩ ?_
    exact gX10_startsUnit_J58 hst fu s
  · refine G_aload_n (x := a0) (pc := 47) dX10_startsUnit_47 rfl ?_
    refine G_iload_n (x := a1) (pc := 48) dX10_startsUnit_48 rfl ?_
    refine G_iconst (pc := 49) dX10_startsUnit_49 ?_
    refine G_isub (pc := 50) dX10_startsUnit_50 (fun x3 => ?_)
    refine G_callVI (as := [vI x3]) (st := []) (c := 10) (bc2 := 0) (bs2 := 0) (pc := 51) dX10_startsUnit_51 z_mX10_kindAt z_vX10_kindAt z_wX10_99 (gX10_kindAt hst fu s a0 x3) rfl rfl (by decide) rfl rfl ⟨by decide, by decide, by decide, by decide, Nat.le_of_ble_eq_true rfl⟩ rfl (fun x5 s4 => ?_)
    refine G_iload_n (x := a2) (pc := 54) dX10_startsUnit_54 rfl ?_
    refine G_icmp_eq (tgt := 62) (pc := 55) dX10_startsUnit_55 ?_ ?_
    · refine G_iconst (pc := 62) dX10_startsUnit_62 ?_
      refine G_fg (lv2 := [vU, vU, vU]) ⟨Or.inl rfl, Or.inl rfl, Or.inl rfl, trivial⟩ ?_
      exact gX10_startsUnit_J63 hst fu s4 0
    · refine G_fg (lv2 := [vU, vU, vU]) ⟨Or.inl rfl, Or.inl rfl, Or.inl rfl, trivial⟩ ?_
      exact gX10_startsUnit_J58 hst fu s4
def fX10_startsUnit_J32 (fu : Nat) (s : z_M) (t0 : Int) : z_O := if z_bl t0 then some (vI t0, s) else none
theorem gX10_startsUnit_J32 {l : Launch} {K : z_K} (hst : l.stackTraces = false) (fu : Nat) (s : z_M) (t0 : Int) : G l K mX10_startsUnit 2 43 0 0 32 [vU, vU, vU] [vI t0] s (fX10_startsUnit_J32 fu s t0) := by
  unfold fX10_startsUnit_J32
  exact G_zret (pc := 32) dX10_startsUnit_32
def fX10_startsUnit (fu : Nat) (s : z_M) (a0 : Int) (a1 : Int) : z_O := if z_ob a0 10 then z_bI (fX10_kindAt fu s a0 a1) (fun x2 s1 => if (x2 : Int) ≠ 7 then (if (x2 : Int) = 1 then (fX10_startsUnit_J43 fu s1 a0 a1 x2) else (if (x2 : Int) ≠ 2 then (fX10_startsUnit_J58 fu s1) else (fX10_startsUnit_J43 fu s1 a0 a1 x2))) else (if z_ob a0 10 then z_let (z_gr a0 0) (fun x6 => if z_ob x6 9 then z_let (z_gr x6 3) (fun x7 => if z_ob x7 7 then z_bI (fX7_get fu s1 x7 a1) (fun x9 s8 => if (x9 : Int) ≠ 1 then (fX10_startsUnit_J32 fu s8 0) else (fX10_startsUnit_J32 fu s8 1)) else none) else none) else none)) else none
theorem gX10_startsUnit {l : Launch} {K : z_K} (hst : l.stackTraces = false) (fu : Nat) (s : z_M) (a0 : Int) (a1 : Int) : z_D l K mX10_startsUnit 2 43 0 0 [vR a0, vI a1] s (fX10_startsUnit fu s a0 a1) := by
  refine z_D_of (lv := [vR a0, vI a1, vU]) hst z_mX10_startsUnit rfl ?_ (Nat.le_of_ble_eq_true rfl) rfl
  unfold fX10_startsUnit
  refine G_aload_n (x := a0) (pc := 0) dX10_startsUnit_0 rfl ?_
  refine G_iload_n (x := a1) (pc := 1) dX10_startsUnit_1 rfl ?_
  refine G_callVI (as := [vI a1]) (st := []) (c := 10) (bc2 := 0) (bs2 := 0) (pc := 2) dX10_startsUnit_2 z_mX10_kindAt z_vX10_kindAt z_wX10_99 (gX10_kindAt hst fu s a0 a1) rfl rfl (by decide) rfl rfl ⟨by decide, by decide, by decide, by decide, Nat.le_of_ble_eq_true rfl⟩ rfl (fun x2 s1 => ?_)
  refine G_istore_n (lv' := [vR a0, vI a1, vI x2]) (pc := 5) dX10_startsUnit_5 rfl ?_
  refine G_iload_n (x := x2) (pc := 6) dX10_startsUnit_6 rfl ?_
  refine G_bipush (pc := 7) dX10_startsUnit_7 ?_
  refine G_icmp_ne (tgt := 33) (pc := 9) dX10_startsUnit_9 ?_ ?_
  · refine G_iload_n (x := x2) (pc := 33) dX10_startsUnit_33 rfl ?_
    refine G_iconst (pc := 34) dX10_startsUnit_34 ?_
    refine G_icmp_eq (tgt := 43) (pc := 35) dX10_startsUnit_35 ?_ ?_
    · exact gX10_startsUnit_J43 hst fu s1 a0 a1 x2
    · refine G_iload_n (x := x2) (pc := 38) dX10_startsUnit_38 rfl ?_
      refine G_iconst (pc := 39) dX10_startsUnit_39 ?_
      refine G_icmp_ne (tgt := 58) (pc := 40) dX10_startsUnit_40 ?_ ?_
      · refine G_fg (lv2 := [vU, vU, vU]) ⟨Or.inl rfl, Or.inl rfl, Or.inl rfl, trivial⟩ ?_
        exact gX10_startsUnit_J58 hst fu s1
      · exact gX10_startsUnit_J43 hst fu s1 a0 a1 x2
  · refine G_aload_n (x := a0) (pc := 12) dX10_startsUnit_12 rfl ?_
    refine G_getR (j := 0) (pc := 13) dX10_startsUnit_13 rfl z_CLX10 (by decide) z_wX10_59 (by decide) (fun x6 => ?_)
    refine G_getR (j := 3) (pc := 16) dX10_startsUnit_16 rfl z_CLX9 (by decide) z_wX10_106 (by decide) (fun x7 => ?_)
    refine G_iload_n (x := a1) (pc := 19) dX10_startsUnit_19 rfl ?_
    refine G_callVI (as := [vI a1]) (st := []) (c := 7) (bc2 := 0) (bs2 := 0) (pc := 20) dX10_startsUnit_20 z_mX7_get z_vX7_get z_wX10_109 (gX7_get hst fu s1 x7 a1) rfl rfl (by decide) rfl rfl ⟨by decide, by decide, by decide, by decide, Nat.le_of_ble_eq_true rfl⟩ rfl (fun x9 s8 => ?_)
    refine G_iconst (pc := 23) dX10_startsUnit_23 ?_
    refine G_icmp_ne (tgt := 31) (pc := 24) dX10_startsUnit_24 ?_ ?_
    · refine G_iconst (pc := 31) dX10_startsUnit_31 ?_
      refine G_fg (lv2 := [vU, vU, vU]) ⟨Or.inl rfl, Or.inl rfl, Or.inl rfl, trivial⟩ ?_
      exact gX10_startsUnit_J32 hst fu s8 0
    · refine G_iconst (pc := 27) dX10_startsUnit_27 ?_
      refine G_goto (tgt := 32) (pc := 28) dX10_startsUnit_28 ?_
      refine G_fg (lv2 := [vU, vU, vU]) ⟨Or.inl rfl, Or.inl rfl, Or.inl rfl, trivial⟩ ?_
      exact gX10_startsUnit_J32 hst fu s8 1
def fX7_add_J23 (fu : Nat) (s : z_M) : z_O := some (vN, s)
theorem gX7_add_J23 {l : Launch} {K : z_K} (hst : l.stackTraces = false) (fu : Nat) (s : z_M) : G l K mX7_add 0 0 0 0 23 [vU, vU, vU] [] s (fX7_add_J23 fu s) := by
  unfold fX7_add_J23
  exact G_vret (pc := 23) dX7_add_23
def fX7_add (fu : Nat) (s : z_M) (a0 : Int) (a1 : Int) (a2 : Int) : z_O := if (a1 : Int) < 0 then (fX7_add_J23 fu s) else (if z_ob a0 7 then z_let (z_gr a0 0) (fun x1 => if z_ob x1 100 ∧ z_I ((z_sh x1).2 : Nat) then z_let (((z_sh x1).2 : Nat) : Int) (fun x2 => if (x2 : Int) ≤ a1 then (fX7_add_J23 fu s) else (if z_ob a0 7 then z_let (z_gr a0 0) (fun x3 => if z_ix x3 100 a1 then z_let (s x3 a1) (fun x4 => z_let (z_w (x4 + a2)) (fun x5 => if z_ix x3 100 a1 then z_let (z_up s x3 a1 x5) (fun s6 => fX7_add_J23 fu s6) else none)) else none) else none)) else none) else none)
theorem gX7_add {l : Launch} {K : z_K} (hst : l.stackTraces = false) (fu : Nat) (s : z_M) (a0 : Int) (a1 : Int) (a2 : Int) : z_D l K mX7_add 0 0 0 0 [vR a0, vI a1, vI a2] s (fX7_add fu s a0 a1 a2) := by
  refine z_D_of (lv := [vR a0, vI a1, vI a2]) hst z_mX7_add rfl ?_ (Nat.le_of_ble_eq_true rfl) rfl
  unfold fX7_add
  refine G_iload_n (x := a1) (pc := 0) dX7_add_0 rfl ?_
  refine G_if_lt (tgt := 23) (pc := 1) dX7_add_1 ?_ ?_
  · refine G_fg (lv2 := [vU, vU, vU]) ⟨Or.inl rfl, Or.inl rfl, Or.inl rfl, trivial⟩ ?_
    exact gX7_add_J23 hst fu s
  · refine G_iload_n (x := a1) (pc := 4) dX7_add_4 rfl ?_
    refine G_aload_n (x := a0) (pc := 5) dX7_add_5 rfl ?_
    refine G_getR (j := 0) (pc := 6) dX7_add_6 rfl z_CLX7 (by decide) z_wX7_7 (by decide) (fun x1 => ?_)
    refine G_alen100 (pc := 9) dX7_add_9 (fun x2 => ?_)
    refine G_icmp_ge (tgt := 23) (pc := 10) dX7_add_10 ?_ ?_
    · refine G_fg (lv2 := [vU, vU, vU]) ⟨Or.inl rfl, Or.inl rfl, Or.inl rfl, trivial⟩ ?_
      exact gX7_add_J23 hst fu s
    · refine G_aload_n (x := a0) (pc := 13) dX7_add_13 rfl ?_
      refine G_getR (j := 0) (pc := 14) dX7_add_14 rfl z_CLX7 (by decide) z_wX7_7 (by decide) (fun x3 => ?_)
      refine G_iload_n (x := a1) (pc := 17) dX7_add_17 rfl ?_
      refine G_dup2 (pc := 18) dX7_add_18 ?_
      refine G_iald (pc := 19) dX7_add_19 (fun x4 => ?_)
      refine G_iload_n (x := a2) (pc := 20) dX7_add_20 rfl ?_
      refine G_iadd (pc := 21) dX7_add_21 (fun x5 => ?_)
      refine G_iast (pc := 22) dX7_add_22 (fun s6 => ?_)
      refine G_fg (lv2 := [vU, vU, vU]) ⟨Or.inl rfl, Or.inl rfl, Or.inl rfl, trivial⟩ ?_
      exact gX7_add_J23 hst fu s6
def fX10_split_J76 (fu : Nat) (s : z_M) (a0 : Int) (a1 : Int) (r : z_M → Int → z_O) (k : z_M → z_O) : z_O := if z_ob a0 10 then z_let (z_gr a0 4) (fun x6 => if z_ob a0 10 then z_let (s a0 16) (fun x7 => z_let (z_w (x7 - 1)) (fun x8 => if z_ob x6 7 then z_bN (fX7_add fu s x6 x8 1) (fun s9 => if z_ob a0 10 then z_let (z_gr a0 13) (fun x10 => if z_ob a0 10 then z_let (s9 a0 16) (fun x11 => z_let (z_w (x11 - 1)) (fun x12 => if z_ob x10 7 then z_bN (fX7_put fu s9 x10 a1 x12) (fun s13 => z_let (z_w (a1 + 1)) (fun x14 => r s13 x14)) else none)) else none) else none) else none)) else none) else none
theorem gX10_split_J76 {l : Launch} {K : z_K} (hst : l.stackTraces = false) (fu : Nat) (s : z_M) (a0 : Int) (a1 : Int) (r : z_M → Int → z_O) (k : z_M → z_O) (hr : ∀ (s : z_M) (a1 : Int), G l K mX10_split 3 65 0 0 7 [vR a0, vI a1] [] s (r s a1)) (hk : ∀ (s : z_M), G l K mX10_split 3 65 0 0 110 [vU, vU] [] s (k s)) : G l K mX10_split 3 65 0 0 76 [vR a0, vI a1] [] s (fX10_split_J76 fu s a0 a1 r k) := by
  unfold fX10_split_J76
  refine G_aload_n (x := a0) (pc := 76) dX10_split_76 rfl ?_
  refine G_getR (j := 4) (pc := 77) dX10_split_77 rfl z_CLX10 (by decide) z_wX10_23 (by decide) (fun x6 => ?_)
  refine G_aload_n (x := a0) (pc := 80) dX10_split_80 rfl ?_
  refine G_getI (j := 16) (pc := 81) dX10_split_81 rfl z_CLX10 (by decide) z_wX10_69 (by decide) (fun x7 => ?_)
  refine G_iconst (pc := 84) dX10_split_84 ?_
  refine G_isub (pc := 85) dX10_split_85 (fun x8 => ?_)
  refine G_iconst (pc := 86) dX10_split_86 ?_
  refine G_callVN (as := [vI x8, vI 1]) (st := []) (c := 7) (bc2 := 0) (bs2 := 0) (pc := 87) dX10_split_87 z_mX7_add z_vX7_add z_wX10_103 (gX7_add hst fu s x6 x8 1) rfl rfl (by decide) rfl rfl ⟨by decide, by decide, by decide, by decide, Nat.le_of_ble_eq_true rfl⟩ rfl (fun s9 => ?_)
  refine G_aload_n (x := a0) (pc := 90) dX10_split_90 rfl ?_
  refine G_getR (j := 13) (pc := 91) dX10_split_91 rfl z_CLX10 (by decide) z_wX10_50 (by decide) (fun x10 => ?_)
  refine G_iload_n (x := a1) (pc := 94) dX10_split_94 rfl ?_
  refine G_aload_n (x := a0) (pc := 95) dX10_split_95 rfl ?_
  refine G_getI (j := 16) (pc := 96) dX10_split_96 rfl z_CLX10 (by decide) z_wX10_69 (by decide) (fun x11 => ?_)
  refine G_iconst (pc := 99) dX10_split_99 ?_
  refine G_isub (pc := 100) dX10_split_100 (fun x12 => ?_)
  refine G_callVN (as := [vI a1, vI x12]) (st := []) (c := 7) (bc2 := 0) (bs2 := 0) (pc := 101) dX10_split_101 z_mX7_put z_vX7_put z_wX10_86 (gX7_put hst fu s9 x10 a1 x12) rfl rfl (by decide) rfl rfl ⟨by decide, by decide, by decide, by decide, Nat.le_of_ble_eq_true rfl⟩ rfl (fun s13 => ?_)
  refine G_iinc (x := a1) (g := fun x14 => [vR a0, vI x14]) (pc := 104) dX10_split_104 rfl (fun _ => rfl) (fun x14 => ?_)
  refine G_goto (tgt := 7) (pc := 107) dX10_split_107 ?_
  exact hr s13 x14
def fX10_split_L7 (fu : Nat) (a0 : Int) : Nat → z_M → Int → (z_M → z_O) → z_O
  | 0, _, _, _ => none
  | F + 1, s, a1, k => if z_ob a0 10 then z_let (z_gr a0 0) (fun x2 => if z_ob x2 9 then z_let (s x2 6) (fun x3 => if (x3 : Int) ≤ a1 then (k s) else (if z_ob a0 10 then z_bI (fX10_startsUnit fu s a0 a1) (fun x5 s4 => if (x5 : Int) = 0 then (fX10_split_J76 fu s4 a0 a1 (fun w v1 => fX10_split_L7 fu a0 F w v1 k) k) else (if z_ob a0 10 then z_let (z_gr a0 2) (fun x15 => if z_ob a0 10 then z_let (s4 a0 16) (fun x16 => if z_ob a0 10 then z_bI (fX10_kindAt fu s4 a0 a1) (fun x18 s17 => if z_ob x15 7 then z_bN (fX7_put fu s17 x15 x16 x18) (fun s19 => if z_ob a0 10 then z_let (z_gr a0 3) (fun x20 => if z_ob a0 10 then z_let (s19 a0 16) (fun x21 => if z_ob x20 7 then z_bN (fX7_put fu s19 x20 x21 a1) (fun s22 => if z_ob a0 10 then z_let (z_gr a0 4) (fun x23 => if z_ob a0 10 then z_let (s22 a0 16) (fun x24 => if z_ob x23 7 then z_bN (fX7_put fu s22 x23 x24 0) (fun s25 => if z_ob a0 10 then z_let (s25 a0 16) (fun x26 => z_let (z_w (x26 + 1)) (fun x27 => if z_ob a0 10 then z_let (z_up s25 a0 16 x27) (fun s28 => fX10_split_J76 fu s28 a0 a1 (fun w v1 => fX10_split_L7 fu a0 F w v1 k) k) else none)) else none) else none) else none) else none) else none) else none) else none) else none) else none) else none) else none)) else none)) else none) else none
theorem gX10_split_L7 {l : Launch} {K : z_K} (hst : l.stackTraces = false) (fu : Nat) (a0 : Int) (k : z_M → z_O) (hk : ∀ (s : z_M), G l K mX10_split 3 65 0 0 110 [vU, vU] [] s (k s)) : ∀ (F : Nat) (s : z_M) (a1 : Int), G l K mX10_split 3 65 0 0 7 [vR a0, vI a1] [] s (fX10_split_L7 fu a0 F s a1 k) := by
  intro F
  induction F with
  | zero => exact fun s a1 h => absurd rfl h
  | succ F ih =>
    intro s a1
    rw [fX10_split_L7]
    refine G_iload_n (x := a1) (pc := 7) dX10_split_7 rfl ?_
    refine G_aload_n (x := a0) (pc := 8) dX10_split_8 rfl ?_
    refine G_getR (j := 0) (pc := 9) dX10_split_9 rfl z_CLX10 (by decide) z_wX10_59 (by decide) (fun x2 => ?_)
    refine G_getI (j := 6) (pc := 12) dX10_split_12 rfl z_CLX9 (by decide) z_wX10_93 (by decide) (fun x3 => ?_)
    refine G_icmp_ge (tgt := 110) (pc := 15) dX10_split_15 ?_ ?_
    · refine G_fg (lv2 := [vU, vU]) ⟨Or.inl rfl, Or.inl rfl, trivial⟩ ?_
      exact hk s
    · refine G_aload_n (x := a0) (pc := 18) dX10_split_18 rfl ?_
      refine G_iload_n (x := a1) (pc := 19) dX10_split_19 rfl ?_
      refine G_callVI (as := [vI a1]) (st := []) (c := 10) (bc2 := 0) (bs2 := 0) (pc := 20) dX10_split_20 z_mX10_startsUnit z_vX10_startsUnit z_wX10_96 (gX10_startsUnit hst fu s a0 a1) rfl rfl (by decide) rfl rfl ⟨by decide, by decide, by decide, by decide, Nat.le_of_ble_eq_true rfl⟩ rfl (fun x5 s4 => ?_)
      refine G_if_eq (tgt := 76) (pc := 23) dX10_split_23 ?_ ?_
      · exact gX10_split_J76 hst fu s4 a0 a1 _ _ (fun w v1 => ih w v1) hk
      · refine G_aload_n (x := a0) (pc := 26) dX10_split_26 rfl ?_
        refine G_getR (j := 2) (pc := 27) dX10_split_27 rfl z_CLX10 (by decide) z_wX10_14 (by decide) (fun x15 => ?_)
        refine G_aload_n (x := a0) (pc := 30) dX10_split_30 rfl ?_
        refine G_getI (j := 16) (pc := 31) dX10_split_31 rfl z_CLX10 (by decide) z_wX10_69 (by decide) (fun x16 => ?_)
        refine G_aload_n (x := a0) (pc := 34) dX10_split_34 rfl ?_
        refine G_iload_n (x := a1) (pc := 35) dX10_split_35 rfl ?_
        refine G_callVI (as := [vI a1]) (st := [vI x16, vR x15]) (c := 10) (bc2 := 0) (bs2 := 0) (pc := 36) dX10_split_36 z_mX10_kindAt z_vX10_kindAt z_wX10_99 (gX10_kindAt hst fu s4 a0 a1) rfl rfl (by decide) rfl rfl ⟨by decide, by decide, by decide, by decide, Nat.le_of_ble_eq_true rfl⟩ rfl (fun x18 s17 => ?_)
        refine G_callVN (as := [vI x16, vI x18]) (st := []) (c := 7) (bc2 := 0) (bs2 := 0) (pc := 39) dX10_split_39 z_mX7_put z_vX7_put z_wX10_86 (gX7_put hst fu s17 x15 x16 x18) rfl rfl (by decide) rfl rfl ⟨by decide, by decide, by decide, by decide, Nat.le_of_ble_eq_true rfl⟩ rfl (fun s19 => ?_)
        refine G_aload_n (x := a0) (pc := 42) dX10_split_42 rfl ?_
        refine G_getR (j := 3) (pc := 43) dX10_split_43 rfl z_CLX10 (by decide) z_wX10_20 (by decide) (fun x20 => ?_)
        refine G_aload_n (x := a0) (pc := 46) dX10_split_46 rfl ?_
        refine G_getI (j := 16) (pc := 47) dX10_split_47 rfl z_CLX10 (by decide) z_wX10_69 (by decide) (fun x21 => ?_)
        refine G_iload_n (x := a1) (pc := 50) dX10_split_50 rfl ?_
        refine G_callVN (as := [vI x21, vI a1]) (st := []) (c := 7) (bc2 := 0) (bs2 := 0) (pc := 51) dX10_split_51 z_mX7_put z_vX7_put z_wX10_86 (gX7_put hst fu s19 x20 x21 a1) rfl rfl (by decide) rfl rfl ⟨by decide, by decide, by decide, by decide, Nat.le_of_ble_eq_true rfl⟩ rfl (fun s22 => ?_)
        refine G_aload_n (x := a0) (pc := 54) dX10_split_54 rfl ?_
        refine G_getR (j := 4) (pc := 55) dX10_split_55 rfl z_CLX10 (by decide) z_wX10_23 (by decide) (fun x23 => ?_)
        refine G_aload_n (x := a0) (pc := 58) dX10_split_58 rfl ?_
        refine G_getI (j := 16) (pc := 59) dX10_split_59 rfl z_CLX10 (by decide) z_wX10_69 (by decide) (fun x24 => ?_)
        refine G_iconst (pc := 62) dX10_split_62 ?_
        refine G_callVN (as := [vI x24, vI 0]) (st := []) (c := 7) (bc2 := 0) (bs2 := 0) (pc := 63) dX10_split_63 z_mX7_put z_vX7_put z_wX10_86 (gX7_put hst fu s22 x23 x24 0) rfl rfl (by decide) rfl rfl ⟨by decide, by decide, by decide, by decide, Nat.le_of_ble_eq_true rfl⟩ rfl (fun s25 => ?_)
        refine G_aload_n (x := a0) (pc := 66) dX10_split_66 rfl ?_
        refine G_dupR (pc := 67) dX10_split_67 ?_
        refine G_getI (j := 16) (pc := 68) dX10_split_68 rfl z_CLX10 (by decide) z_wX10_69 (by decide) (fun x26 => ?_)
        refine G_iconst (pc := 71) dX10_split_71 ?_
        refine G_iadd (pc := 72) dX10_split_72 (fun x27 => ?_)
        refine G_putI (j := 16) (pc := 73) dX10_split_73 rfl z_CLX10 (by decide) z_wX10_69 rfl (by decide) (by decide) (fun s28 => ?_)
        exact gX10_split_J76 hst fu s28 a0 a1 _ _ (fun w v1 => ih w v1) hk
def fX10_split (fu : Nat) (s : z_M) (a0 : Int) : z_O := if z_ob a0 10 then z_let (z_up s a0 16 0) (fun s1 => fX10_split_L7 fu a0 fu s1 0 (fun s29 => some (vN, s29))) else none
theorem gX10_split {l : Launch} {K : z_K} (hst : l.stackTraces = false) (fu : Nat) (s : z_M) (a0 : Int) : z_D l K mX10_split 3 65 0 0 [vR a0] s (fX10_split fu s a0) := by
  refine z_D_of (lv := [vR a0, vU]) hst z_mX10_split rfl ?_ (Nat.le_of_ble_eq_true rfl) rfl
  unfold fX10_split
  refine G_aload_n (x := a0) (pc := 0) dX10_split_0 rfl ?_
  refine G_iconst (pc := 1) dX10_split_1 ?_
  refine G_putI (j := 16) (pc := 2) dX10_split_2 rfl z_CLX10 (by decide) z_wX10_69 rfl (by decide) (by decide) (fun s1 => ?_)
  refine G_iconst (pc := 5) dX10_split_5 ?_
  refine G_istore_n (lv' := [vR a0, vI 0]) (pc := 6) dX10_split_6 rfl ?_
  refine gX10_split_L7 hst fu a0 _ (fun s29 => ?_) fu s1 0
  exact G_vret (pc := 110) dX10_split_110
def fX10_isAcross_J48 (fu : Nat) (s : z_M) (t0 : Int) : z_O := if z_bl t0 then some (vI t0, s) else none
theorem gX10_isAcross_J48 {l : Launch} {K : z_K} (hst : l.stackTraces = false) (fu : Nat) (s : z_M) (t0 : Int) : G l K mX10_isAcross 1 21 0 0 48 [vU, vU] [vI t0] s (fX10_isAcross_J48 fu s t0) := by
  unfold fX10_isAcross_J48
  exact G_zret (pc := 48) dX10_isAcross_48
def fX10_isAcross_J47 (fu : Nat) (s : z_M) : z_O := fX10_isAcross_J48 fu s 0
theorem gX10_isAcross_J47 {l : Launch} {K : z_K} (hst : l.stackTraces = false) (fu : Nat) (s : z_M) : G l K mX10_isAcross 1 21 0 0 47 [vU, vU] [] s (fX10_isAcross_J47 fu s) := by
  unfold fX10_isAcross_J47
  refine G_iconst (pc := 47) dX10_isAcross_47 ?_
  exact gX10_isAcross_J48 hst fu s 0
def fX10_isAcross (fu : Nat) (s : z_M) (a0 : Int) (a1 : Int) : z_O := if z_ob a0 10 then z_let (z_gr a0 2) (fun x1 => if z_ob x1 7 then z_bI (fX7_get fu s x1 a1) (fun x3 s2 => if (x3 : Int) ≠ 2 then (fX10_isAcross_J47 fu s2) else (if z_ob a0 10 then z_let (z_gr a0 1) (fun x4 => if z_ob x4 7 then z_bI (fX7_get fu s2 x4 5) (fun x6 s5 => if (x6 : Int) ≠ 1 then (fX10_isAcross_J47 fu s5) else (if z_ob a0 10 then z_let (z_gr a0 4) (fun x7 => if z_ob x7 7 then z_bI (fX7_get fu s5 x7 a1) (fun x9 s8 => if z_ob a0 10 then z_let (z_gr a0 1) (fun x10 => if z_ob x10 7 then z_bI (fX7_get fu s8 x10 1) (fun x12 s11 => if (x12 : Int) < x9 then (fX10_isAcross_J47 fu s11) else (fX10_isAcross_J48 fu s11 1)) else none) else none) else none) else none)) else none) else none)) else none) else none
theorem gX10_isAcross {l : Launch} {K : z_K} (hst : l.stackTraces = false) (fu : Nat) (s : z_M) (a0 : Int) (a1 : Int) : z_D l K mX10_isAcross 1 21 0 0 [vR a0, vI a1] s (fX10_isAcross fu s a0 a1) := by
  refine z_D_of (lv := [vR a0, vI a1]) hst z_mX10_isAcross rfl ?_ (Nat.le_of_ble_eq_true rfl) rfl
  unfold fX10_isAcross
  refine G_aload_n (x := a0) (pc := 0) dX10_isAcross_0 rfl ?_
  refine G_getR (j := 2) (pc := 1) dX10_isAcross_1 rfl z_CLX10 (by decide) z_wX10_14 (by decide) (fun x1 => ?_)
  refine G_iload_n (x := a1) (pc := 4) dX10_isAcross_4 rfl ?_
  refine G_callVI (as := [vI a1]) (st := []) (c := 7) (bc2 := 0) (bs2 := 0) (pc := 5) dX10_isAcross_5 z_mX7_get z_vX7_get z_wX10_109 (gX7_get hst fu s x1 a1) rfl rfl (by decide) rfl rfl ⟨by decide, by decide, by decide, by decide, Nat.le_of_ble_eq_true rfl⟩ rfl (fun x3 s2 => ?_)
  refine G_iconst (pc := 8) dX10_isAcross_8 ?_
  refine G_icmp_ne (tgt := 47) (pc := 9) dX10_isAcross_9 ?_ ?_
  · refine G_fg (lv2 := [vU, vU]) ⟨Or.inl rfl, Or.inl rfl, trivial⟩ ?_
    exact gX10_isAcross_J47 hst fu s2
  · refine G_aload_n (x := a0) (pc := 12) dX10_isAcross_12 rfl ?_
    refine G_getR (j := 1) (pc := 13) dX10_isAcross_13 rfl z_CLX10 (by decide) z_wX10_63 (by decide) (fun x4 => ?_)
    refine G_iconst (pc := 16) dX10_isAcross_16 ?_
    refine G_callVI (as := [vI 5]) (st := []) (c := 7) (bc2 := 0) (bs2 := 0) (pc := 17) dX10_isAcross_17 z_mX7_get z_vX7_get z_wX10_109 (gX7_get hst fu s2 x4 5) rfl rfl (by decide) rfl rfl ⟨by decide, by decide, by decide, by decide, Nat.le_of_ble_eq_true rfl⟩ rfl (fun x6 s5 => ?_)
    refine G_iconst (pc := 20) dX10_isAcross_20 ?_
    refine G_icmp_ne (tgt := 47) (pc := 21) dX10_isAcross_21 ?_ ?_
    · refine G_fg (lv2 := [vU, vU]) ⟨Or.inl rfl, Or.inl rfl, trivial⟩ ?_
      exact gX10_isAcross_J47 hst fu s5
    · refine G_aload_n (x := a0) (pc := 24) dX10_isAcross_24 rfl ?_
      refine G_getR (j := 4) (pc := 25) dX10_isAcross_25 rfl z_CLX10 (by decide) z_wX10_23 (by decide) (fun x7 => ?_)
      refine G_iload_n (x := a1) (pc := 28) dX10_isAcross_28 rfl ?_
      refine G_callVI (as := [vI a1]) (st := []) (c := 7) (bc2 := 0) (bs2 := 0) (pc := 29) dX10_isAcross_29 z_mX7_get z_vX7_get z_wX10_109 (gX7_get hst fu s5 x7 a1) rfl rfl (by decide) rfl rfl ⟨by decide, by decide, by decide, by decide, Nat.le_of_ble_eq_true rfl⟩ rfl (fun x9 s8 => ?_)
      refine G_aload_n (x := a0) (pc := 32) dX10_isAcross_32 rfl ?_
      refine G_getR (j := 1) (pc := 33) dX10_isAcross_33 rfl z_CLX10 (by decide) z_wX10_63 (by decide) (fun x10 => ?_)
      refine G_iconst (pc := 36) dX10_isAcross_36 ?_
      refine G_callVI (as := [vI 1]) (st := [vI x9]) (c := 7) (bc2 := 0) (bs2 := 0) (pc := 37) dX10_isAcross_37 z_mX7_get z_vX7_get z_wX10_109 (gX7_get hst fu s8 x10 1) rfl rfl (by decide) rfl rfl ⟨by decide, by decide, by decide, by decide, Nat.le_of_ble_eq_true rfl⟩ rfl (fun x12 s11 => ?_)
      refine G_icmp_gt (tgt := 47) (pc := 40) dX10_isAcross_40 ?_ ?_
      · refine G_fg (lv2 := [vU, vU]) ⟨Or.inl rfl, Or.inl rfl, trivial⟩ ?_
        exact gX10_isAcross_J47 hst fu s11
      · refine G_iconst (pc := 43) dX10_isAcross_43 ?_
        refine G_goto (tgt := 48) (pc := 44) dX10_isAcross_44 ?_
        refine G_fg (lv2 := [vU, vU]) ⟨Or.inl rfl, Or.inl rfl, trivial⟩ ?_
        exact gX10_isAcross_J48 hst fu s11 1
def fX10_isTurned_J51 (fu : Nat) (s : z_M) (t0 : Int) : z_O := if z_bl t0 then some (vI t0, s) else none
theorem gX10_isTurned_J51 {l : Launch} {K : z_K} (hst : l.stackTraces = false) (fu : Nat) (s : z_M) (t0 : Int) : G l K mX10_isTurned 1 21 0 0 51 [vU, vU, vU, vU] [vI t0] s (fX10_isTurned_J51 fu s t0) := by
  unfold fX10_isTurned_J51
  exact G_zret (pc := 51) dX10_isTurned_51
def fX10_isTurned_J50 (fu : Nat) (s : z_M) : z_O := fX10_isTurned_J51 fu s 0
theorem gX10_isTurned_J50 {l : Launch} {K : z_K} (hst : l.stackTraces = false) (fu : Nat) (s : z_M) : G l K mX10_isTurned 1 21 0 0 50 [vU, vU, vU, vU] [] s (fX10_isTurned_J50 fu s) := by
  unfold fX10_isTurned_J50
  refine G_iconst (pc := 50) dX10_isTurned_50 ?_
  exact gX10_isTurned_J51 hst fu s 0
def fX10_isTurned_J29 (fu : Nat) (s : z_M) (a0 : Int) (t0 : Int) : z_O := if (t0 : Int) = 0 then (fX10_isTurned_J50 fu s) else (if z_ob a0 10 then z_let (z_gr a0 1) (fun x1 => if z_ob x1 7 then z_bI (fX7_get fu s x1 5) (fun x3 s2 => if (x3 : Int) ≠ 1 then (fX10_isTurned_J50 fu s2) else (fX10_isTurned_J51 fu s2 1)) else none) else none)
theorem gX10_isTurned_J29 {l : Launch} {K : z_K} (hst : l.stackTraces = false) (fu : Nat) (s : z_M) (a0 : Int) (t0 : Int) : G l K mX10_isTurned 1 21 0 0 29 [vR a0, vU, vU, vU] [vI t0] s (fX10_isTurned_J29 fu s a0 t0) := by
  unfold fX10_isTurned_J29
  refine G_istore_n (lv' := [vR a0, vU, vU, vI t0]) (pc := 29) dX10_isTurned_29 rfl ?_
  refine G_iload_n (x := t0) (pc := 30) dX10_isTurned_30 rfl ?_
  refine G_if_eq (tgt := 50) (pc := 31) dX10_isTurned_31 ?_ ?_
  · refine G_fg (lv2 := [vU, vU, vU, vU]) ⟨Or.inl rfl, Or.inl rfl, Or.inl rfl, Or.inl rfl, trivial⟩ ?_
    exact gX10_isTurned_J50 hst fu s
  · refine G_aload_n (x := a0) (pc := 34) dX10_isTurned_34 rfl ?_
    refine G_getR (j := 1) (pc := 35) dX10_isTurned_35 rfl z_CLX10 (by decide) z_wX10_63 (by decide) (fun x1 => ?_)
    refine G_iconst (pc := 38) dX10_isTurned_38 ?_
    refine G_callVI (as := [vI 5]) (st := []) (c := 7) (bc2 := 0) (bs2 := 0) (pc := 39) dX10_isTurned_39 z_mX7_get z_vX7_get z_wX10_109 (gX7_get hst fu s x1 5) rfl rfl (by decide) rfl rfl ⟨by decide, by decide, by decide, by decide, Nat.le_of_ble_eq_true rfl⟩ rfl (fun x3 s2 => ?_)
    refine G_iconst (pc := 42) dX10_isTurned_42 ?_
    refine G_icmp_ne (tgt := 50) (pc := 43) dX10_isTurned_43 ?_ ?_
    · refine G_fg (lv2 := [vU, vU, vU, vU]) ⟨Or.inl rfl, Or.inl rfl, Or.inl rfl, Or.inl rfl, trivial⟩ ?_
      exact gX10_isTurned_J50 hst fu s2
    · refine G_iconst (pc := 46) dX10_isTurned_46 ?_
      refine G_goto (tgt := 51) (pc := 47) dX10_isTurned_47 ?_
      refine G_fg (lv2 := [vU, vU, vU, vU]) ⟨Or.inl rfl, Or.inl rfl, Or.inl rfl, Or.inl rfl, trivial⟩ ?_
      exact gX10_isTurned_J51 hst fu s2 1
def fX10_isTurned_J24 (fu : Nat) (s : z_M) (a0 : Int) : z_O := fX10_isTurned_J29 fu s a0 1
theorem gX10_isTurned_J24 {l : Launch} {K : z_K} (hst : l.stackTraces = false) (fu : Nat) (s : z_M) (a0 : Int) : G l K mX10_isTurned 1 21 0 0 24 [vR a0, vU, vU, vU] [] s (fX10_isTurned_J24 fu s a0) := by
  unfold fX10_isTurned_J24
  refine G_iconst (pc := 24) dX10_isTurned_24 ?_
  refine G_goto (tgt := 29) (pc := 25) dX10_isTurned_25 ?_
  exact gX10_isTurned_J29 hst fu s a0 1
def fX10_isTurned_J14 (fu : Nat) (s : z_M) (a0 : Int) (a1 : Int) : z_O := if (a1 : Int) = 4 then (fX10_isTurned_J24 fu s a0) else (if (a1 : Int) ≠ 5 then (fX10_isTurned_J29 fu s a0 0) else (fX10_isTurned_J24 fu s a0))
theorem gX10_isTurned_J14 {l : Launch} {K : z_K} (hst : l.stackTraces = false) (fu : Nat) (s : z_M) (a0 : Int) (a1 : Int) : G l K mX10_isTurned 1 21 0 0 14 [vR a0, vI a1, vU, vU] [] s (fX10_isTurned_J14 fu s a0 a1) := by
  unfold fX10_isTurned_J14
  refine G_iload_n (x := a1) (pc := 14) dX10_isTurned_14 rfl ?_
  refine G_iconst (pc := 15) dX10_isTurned_15 ?_
  refine G_icmp_eq (tgt := 24) (pc := 16) dX10_isTurned_16 ?_ ?_
  · refine G_fg (lv2 := [vR a0, vU, vU, vU]) ⟨Or.inr rfl, Or.inl rfl, Or.inl rfl, Or.inl rfl, trivial⟩ ?_
    exact gX10_isTurned_J24 hst fu s a0
  · refine G_iload_n (x := a1) (pc := 19) dX10_isTurned_19 rfl ?_
    refine G_iconst (pc := 20) dX10_isTurned_20 ?_
    refine G_icmp_ne (tgt := 28) (pc := 21) dX10_isTurned_21 ?_ ?_
    · refine G_iconst (pc := 28) dX10_isTurned_28 ?_
      refine G_fg (lv2 := [vR a0, vU, vU, vU]) ⟨Or.inr rfl, Or.inl rfl, Or.inl rfl, Or.inl rfl, trivial⟩ ?_
      exact gX10_isTurned_J29 hst fu s a0 0
    · refine G_fg (lv2 := [vR a0, vU, vU, vU]) ⟨Or.inr rfl, Or.inl rfl, Or.inl rfl, Or.inl rfl, trivial⟩ ?_
      exact gX10_isTurned_J24 hst fu s a0
def fX10_isTurned (fu : Nat) (s : z_M) (a0 : Int) (a1 : Int) (a2 : Int) : z_O := if (a1 : Int) = 1 then (fX10_isTurned_J24 fu s a0) else (if (a1 : Int) ≠ 2 then (fX10_isTurned_J14 fu s a0 a1) else (if (a2 : Int) = 0 then (fX10_isTurned_J24 fu s a0) else (fX10_isTurned_J14 fu s a0 a1)))
theorem gX10_isTurned {l : Launch} {K : z_K} (hst : l.stackTraces = false) (fu : Nat) (s : z_M) (a0 : Int) (a1 : Int) (a2 : Int) : z_D l K mX10_isTurned 1 21 0 0 [vR a0, vI a1, vI a2] s (fX10_isTurned fu s a0 a1 a2) := by
  refine z_D_of (lv := [vR a0, vI a1, vI a2, vU]) hst z_mX10_isTurned rfl ?_ (Nat.le_of_ble_eq_true rfl) rfl
  unfold fX10_isTurned
  refine G_iload_n (x := a1) (pc := 0) dX10_isTurned_0 rfl ?_
  refine G_iconst (pc := 1) dX10_isTurned_1 ?_
  refine G_icmp_eq (tgt := 24) (pc := 2) dX10_isTurned_2 ?_ ?_
  · refine G_fg (lv2 := [vR a0, vU, vU, vU]) ⟨Or.inr rfl, Or.inl rfl, Or.inl rfl, Or.inl rfl, trivial⟩ ?_
    exact gX10_isTurned_J24 hst fu s a0
  · refine G_iload_n (x := a1) (pc := 5) dX10_isTurned_5 rfl ?_
    refine G_iconst (pc := 6) dX10_isTurned_6 ?_
    refine G_icmp_ne (tgt := 14) (pc := 7) dX10_isTurned_7 ?_ ?_
    · refine G_fg (lv2 := [vR a0, vI a1, vU, vU]) ⟨Or.inr rfl, Or.inr rfl, Or.inl rfl, Or.inl rfl, trivial⟩ ?_
      exact gX10_isTurned_J14 hst fu s a0 a1
    · refine G_iload_n (x := a2) (pc := 10) dX10_isTurned_10 rfl ?_
      refine G_if_eq (tgt := 24) (pc := 11) dX10_isTurned_11 ?_ ?_
      · refine G_fg (lv2 := [vR a0, vU, vU, vU]) ⟨Or.inr rfl, Or.inl rfl, Or.inl rfl, Or.inl rfl, trivial⟩ ?_
        exact gX10_isTurned_J24 hst fu s a0
      · refine G_fg (lv2 := [vR a0, vI a1, vU, vU]) ⟨Or.inr rfl, Or.inr rfl, Or.inl rfl, Or.inl rfl, trivial⟩ ?_
        exact gX10_isTurned_J14 hst fu s a0 a1
def fX10_longOfSign_J10 (fu : Nat) (s : z_M) : z_O := some (vI 12, s)
theorem gX10_longOfSign_J10 {l : Launch} {K : z_K} (hst : l.stackTraces = false) (fu : Nat) (s : z_M) : G l K mX10_longOfSign 0 0 0 0 10 [vU, vU] [] s (fX10_longOfSign_J10 fu s) := by
  unfold fX10_longOfSign_J10
  refine G_bipush (pc := 10) dX10_longOfSign_10 ?_
  exact G_iret (pc := 12) dX10_longOfSign_12
def fX10_longOfSign_J37 (fu : Nat) (s : z_M) : z_O := some (vI 4, s)
theorem gX10_longOfSign_J37 {l : Launch} {K : z_K} (hst : l.stackTraces = false) (fu : Nat) (s : z_M) : G l K mX10_longOfSign 0 0 0 0 37 [vU, vU] [] s (fX10_longOfSign_J37 fu s) := by
  unfold fX10_longOfSign_J37
  refine G_iconst (pc := 37) dX10_longOfSign_37 ?_
  exact G_iret (pc := 38) dX10_longOfSign_38
def fX10_longOfSign_J58 (fu : Nat) (s : z_M) (t0 : Int) : z_O := some (vI t0, s)
theorem gX10_longOfSign_J58 {l : Launch} {K : z_K} (hst : l.stackTraces = false) (fu : Nat) (s : z_M) (t0 : Int) : G l K mX10_longOfSign 0 0 0 0 58 [vU, vU] [vI t0] s (fX10_longOfSign_J58 fu s t0) := by
  unfold fX10_longOfSign_J58
  exact G_iret (pc := 58) dX10_longOfSign_58
def fX10_longOfSign_J51 (fu : Nat) (s : z_M) : z_O := fX10_longOfSign_J58 fu s 9
theorem gX10_longOfSign_J51 {l : Launch} {K : z_K} (hst : l.stackTraces = false) (fu : Nat) (s : z_M) : G l K mX10_longOfSign 0 0 0 0 51 [vU, vU] [] s (fX10_longOfSign_J51 fu s) := by
  unfold fX10_longOfSign_J51
  refine G_bipush (pc := 51) dX10_longOfSign_51 ?_
  refine G_goto (tgt := 58) (pc := 53) dX10_longOfSign_53 ?_
  exact gX10_longOfSign_J58 hst fu s 9
def fX10_longOfSign (fu : Nat) (s : z_M) (a0 : Int) (a1 : Int) : z_O := if (a0 : Int) = 0 then (fX10_longOfSign_J10 fu s) else (if (a0 : Int) ≠ 7 then (if (a1 : Int) = 105 then (fX10_longOfSign_J37 fu s) else (if (a1 : Int) = 106 then (fX10_longOfSign_J37 fu s) else (if (a1 : Int) = 108 then (fX10_longOfSign_J37 fu s) else (if (a0 : Int) ≠ 6 then (if (a1 : Int) = 109 then (fX10_longOfSign_J51 fu s) else (if (a1 : Int) ≠ 119 then (fX10_longOfSign_J58 fu s 6) else (fX10_longOfSign_J51 fu s))) else (fX10_longOfSign_J37 fu s))))) else (fX10_longOfSign_J10 fu s))
theorem gX10_longOfSign {l : Launch} {K : z_K} (hst : l.stackTraces = false) (fu : Nat) (s : z_M) (a0 : Int) (a1 : Int) : z_D l K mX10_longOfSign 0 0 0 0 [vI a0, vI a1] s (fX10_longOfSign fu s a0 a1) := by
  refine z_D_of (lv := [vI a0, vI a1]) hst z_mX10_longOfSign rfl ?_ (Nat.le_of_ble_eq_true rfl) rfl
  unfold fX10_longOfSign
  refine G_iload_n (x := a0) (pc := 0) dX10_longOfSign_0 rfl ?_
  refine G_if_eq (tgt := 10) (pc := 1) dX10_longOfSign_1 ?_ ?_
  · refine G_fg (lv2 := [vU, vU]) ⟨Or.inl rfl, Or.inl rfl, trivial⟩ ?_
    exact gX10_longOfSign_J10 hst fu s
  · refine G_iload_n (x := a0) (pc := 4) dX10_longOfSign_4 rfl ?_
    refine G_bipush (pc := 5) dX10_longOfSign_5 ?_
    refine G_icmp_ne (tgt := 13) (pc := 7) dX10_longOfSign_7 ?_ ?_
    · refine G_iload_n (x := a1) (pc := 13) dX10_longOfSign_13 rfl ?_
      refine G_bipush (pc := 14) dX10_longOfSign_14 ?_
      refine G_icmp_eq (tgt := 37) (pc := 16) dX10_longOfSign_16 ?_ ?_
      · refine G_fg (lv2 := [vU, vU]) ⟨Or.inl rfl, Or.inl rfl, trivial⟩ ?_
        exact gX10_longOfSign_J37 hst fu s
      · refine G_iload_n (x := a1) (pc := 19) dX10_longOfSign_19 rfl ?_
        refine G_bipush (pc := 20) dX10_longOfSign_20 ?_
        refine G_icmp_eq (tgt := 37) (pc := 22) dX10_longOfSign_22 ?_ ?_
        · refine G_fg (lv2 := [vU, vU]) ⟨Or.inl rfl, Or.inl rfl, trivial⟩ ?_
          exact gX10_longOfSign_J37 hst fu s
        · refine G_iload_n (x := a1) (pc := 25) dX10_longOfSign_25 rfl ?_
          refine G_bipush (pc := 26) dX10_longOfSign_26 ?_
          refine G_icmp_eq (tgt := 37) (pc := 28) dX10_longOfSign_28 ?_ ?_
          · refine G_fg (lv2 := [vU, vU]) ⟨Or.inl rfl, Or.inl rfl, trivial⟩ ?_
            exact gX10_longOfSign_J37 hst fu s
          · refine G_iload_n (x := a0) (pc := 31) dX10_longOfSign_31 rfl ?_
            refine G_bipush (pc := 32) dX10_longOfSign_32 ?_
            refine G_icmp_ne (tgt := 39) (pc := 34) dX10_longOfSign_34 ?_ ?_
            · refine G_iload_n (x := a1) (pc := 39) dX10_longOfSign_39 rfl ?_
              refine G_bipush (pc := 40) dX10_longOfSign_40 ?_
              refine G_icmp_eq (tgt := 51) (pc := 42) dX10_longOfSign_42 ?_ ?_
              · refine G_fg (lv2 := [vU, vU]) ⟨Or.inl rfl, Or.inl rfl, trivial⟩ ?_
                exact gX10_longOfSign_J51 hst fu s
              · refine G_iload_n (x := a1) (pc := 45) dX10_longOfSign_45 rfl ?_
                refine G_bipush (pc := 46) dX10_longOfSign_46 ?_
                refine G_icmp_ne (tgt := 56) (pc := 48) dX10_longOfSign_48 ?_ ?_
                · refine G_bipush (pc := 56) dX10_longOfSign_56 ?_
                  refine G_fg (lv2 := [vU, vU]) ⟨Or.inl rfl, Or.inl rfl, trivial⟩ ?_
                  exact gX10_longOfSign_J58 hst fu s 6
                · refine G_fg (lv2 := [vU, vU]) ⟨Or.inl rfl, Or.inl rfl, trivial⟩ ?_
                  exact gX10_longOfSign_J51 hst fu s
            · refine G_fg (lv2 := [vU, vU]) ⟨Or.inl rfl, Or.inl rfl, trivial⟩ ?_
              exact gX10_longOfSign_J37 hst fu s
    · refine G_fg (lv2 := [vU, vU]) ⟨Or.inl rfl, Or.inl rfl, trivial⟩ ?_
      exact gX10_longOfSign_J10 hst fu s
def fX9_readings_J15 (fu : Nat) (s : z_M) (t0 : Int) : z_O := some (vR t0, s)
theorem gX9_readings_J15 {l : Launch} {K : z_K} (hst : l.stackTraces = false) (fu : Nat) (s : z_M) (t0 : Int) : G l K mX9_readings 0 0 0 0 15 [vU, vU] [vR t0] s (fX9_readings_J15 fu s t0) := by
  unfold fX9_readings_J15
  exact G_aret (pc := 15) dX9_readings_15
def fX9_readings (fu : Nat) (s : z_M) (a0 : Int) (a1 : Int) : z_O := if (a1 : Int) ≠ 0 then (if z_ob a0 9 then z_let (z_gr a0 5) (fun x1 => fX9_readings_J15 fu s x1) else none) else (if z_ob a0 9 then z_let (z_gr a0 4) (fun x2 => fX9_readings_J15 fu s x2) else none)
theorem gX9_readings {l : Launch} {K : z_K} (hst : l.stackTraces = false) (fu : Nat) (s : z_M) (a0 : Int) (a1 : Int) : z_D l K mX9_readings 0 0 0 0 [vR a0, vI a1] s (fX9_readings fu s a0 a1) := by
  refine z_D_of (lv := [vR a0, vI a1]) hst z_mX9_readings rfl ?_ (Nat.le_of_ble_eq_true rfl) rfl
  unfold fX9_readings
  refine G_iload_n (x := a1) (pc := 0) dX9_readings_0 rfl ?_
  refine G_if_ne (tgt := 11) (pc := 1) dX9_readings_1 ?_ ?_
  · refine G_aload_n (x := a0) (pc := 11) dX9_readings_11 rfl ?_
    refine G_getR (j := 5) (pc := 12) dX9_readings_12 rfl z_CLX9 (by decide) z_wX9_36 (by decide) (fun x1 => ?_)
    refine G_fg (lv2 := [vU, vU]) ⟨Or.inl rfl, Or.inl rfl, trivial⟩ ?_
    exact gX9_readings_J15 hst fu s x1
  · refine G_aload_n (x := a0) (pc := 4) dX9_readings_4 rfl ?_
    refine G_getR (j := 4) (pc := 5) dX9_readings_5 rfl z_CLX9 (by decide) z_wX9_32 (by decide) (fun x2 => ?_)
    refine G_goto (tgt := 15) (pc := 8) dX9_readings_8 ?_
    refine G_fg (lv2 := [vU, vU]) ⟨Or.inl rfl, Or.inl rfl, trivial⟩ ?_
    exact gX9_readings_J15 hst fu s x2
def fX9_letterCount (fu : Nat) (s : z_M) (a0 : Int) (a1 : Int) (a2 : Int) : z_O := if z_ob a0 9 then z_bR (fX9_readings fu s a0 a1) (fun x2 s1 => if z_ob x2 4 then z_bL (fX4_get fu s1 x2 a2) (fun x4 s3 => z_let (z_landl x4 15) (fun x5 => z_let (z_w x5) (fun x6 => some (vI x6, s3)))) else none) else none
theorem gX9_letterCount {l : Launch} {K : z_K} (hst : l.stackTraces = false) (fu : Nat) (s : z_M) (a0 : Int) (a1 : Int) (a2 : Int) : z_D l K mX9_letterCount 1 21 0 0 [vR a0, vI a1, vI a2] s (fX9_letterCount fu s a0 a1 a2) := by
  refine z_D_of (lv := [vR a0, vI a1, vI a2]) hst z_mX9_letterCount rfl ?_ (Nat.le_of_ble_eq_true rfl) rfl
  unfold fX9_letterCount
  refine G_aload_n (x := a0) (pc := 0) dX9_letterCount_0 rfl ?_
  refine G_iload_n (x := a1) (pc := 1) dX9_letterCount_1 rfl ?_
  refine G_callVR (as := [vI a1]) (st := []) (c := 9) (bc2 := 0) (bs2 := 0) (pc := 2) dX9_letterCount_2 z_mX9_readings z_vX9_readings z_wX9_75 (gX9_readings hst fu s a0 a1) rfl rfl (by decide) rfl rfl ⟨by decide, by decide, by decide, by decide, Nat.le_of_ble_eq_true rfl⟩ rfl (fun x2 s1 => ?_)
  refine G_iload_n (x := a2) (pc := 5) dX9_letterCount_5 rfl ?_
  refine G_callVL (as := [vI a2]) (st := []) (c := 4) (bc2 := 0) (bs2 := 0) (pc := 6) dX9_letterCount_6 z_mX4_get z_vX4_get z_wX9_79 (gX4_get hst fu s1 x2 a2) rfl rfl (by decide) rfl rfl ⟨by decide, by decide, by decide, by decide, Nat.le_of_ble_eq_true rfl⟩ rfl (fun x4 s3 => ?_)
  refine G_ldc2 (pc := 9) dX9_letterCount_9 z_wX9_82 ?_
  refine G_land (pc := 12) dX9_letterCount_12 (fun x5 => ?_)
  refine G_l2i (pc := 13) dX9_letterCount_13 (fun x6 => ?_)
  exact G_iret (pc := 14) dX9_letterCount_14
def fX10_measureUnit_J96 (fu : Nat) (s : z_M) (a0 : Int) (a1 : Int) (a2 : Int) (a3 : Int) (a4 : Int) (a5 : Int) (a6 : Int) (a7 : Int) (t0 : Int) (r : z_M → Int → Int → z_O) (k : z_M → Int → z_O) : z_O := if z_ob a0 10 then z_let (z_gr a0 14) (fun x24 => if z_ob x24 7 then z_bN (fX7_put fu s x24 a7 t0) (fun s25 => if z_ob a0 10 then z_let (z_gr a0 15) (fun x26 => if z_ob x26 7 then z_bN (fX7_put fu s25 x26 a7 a5) (fun s27 => z_let (z_w (a6 + t0)) (fun x28 => z_let (z_w (a7 + 1)) (fun x29 => r s27 x28 x29))) else none) else none) else none) else none
theorem gX10_measureUnit_J96 {l : Launch} {K : z_K} (hst : l.stackTraces = false) (fu : Nat) (s : z_M) (a0 : Int) (a1 : Int) (a2 : Int) (a3 : Int) (a4 : Int) (a5 : Int) (a6 : Int) (a7 : Int) (t0 : Int) (r : z_M → Int → Int → z_O) (k : z_M → Int → z_O) (hr : ∀ (s : z_M) (a6 : Int) (a7 : Int), G l K mX10_measureUnit 2 44 0 0 55 [vR a0, vI a1, vI a2, vI a3, vI a4, vI a5, vI a6, vI a7, vU] [] s (r s a6 a7)) (hk : ∀ (s : z_M) (a6 : Int), G l K mX10_measureUnit 2 44 0 0 133 [vR a0, vI a1, vI a2, vU, vI a4, vU, vI a6, vU, vU] [] s (k s a6)) : G l K mX10_measureUnit 2 44 0 0 96 [vR a0, vI a1, vI a2, vI a3, vI a4, vI a5, vI a6, vI a7, vU] [vI t0] s (fX10_measureUnit_J96 fu s a0 a1 a2 a3 a4 a5 a6 a7 t0 r k) := by
  unfold fX10_measureUnit_J96
  refine G_istore (lv' := [vR a0, vI a1, vI a2, vI a3, vI a4, vI a5, vI a6, vI a7, vI t0]) (pc := 96) dX10_measureUnit_96 rfl ?_
  refine G_aload_n (x := a0) (pc := 98) dX10_measureUnit_98 rfl ?_
  refine G_getR (j := 14) (pc := 99) dX10_measureUnit_99 rfl z_CLX10 (by decide) z_wX10_53 (by decide) (fun x24 => ?_)
  refine G_iload (x := a7) (pc := 102) dX10_measureUnit_102 rfl ?_
  refine G_iload (x := t0) (pc := 104) dX10_measureUnit_104 rfl ?_
  refine G_callVN (as := [vI a7, vI t0]) (st := []) (c := 7) (bc2 := 0) (bs2 := 0) (pc := 106) dX10_measureUnit_106 z_mX7_put z_vX7_put z_wX10_86 (gX7_put hst fu s x24 a7 t0) rfl rfl (by decide) rfl rfl ⟨by decide, by decide, by decide, by decide, Nat.le_of_ble_eq_true rfl⟩ rfl (fun s25 => ?_)
  refine G_aload_n (x := a0) (pc := 109) dX10_measureUnit_109 rfl ?_
  refine G_getR (j := 15) (pc := 110) dX10_measureUnit_110 rfl z_CLX10 (by decide) z_wX10_56 (by decide) (fun x26 => ?_)
  refine G_iload (x := a7) (pc := 113) dX10_measureUnit_113 rfl ?_
  refine G_iload (x := a5) (pc := 115) dX10_measureUnit_115 rfl ?_
  refine G_callVN (as := [vI a7, vI a5]) (st := []) (c := 7) (bc2 := 0) (bs2 := 0) (pc := 117) dX10_measureUnit_117 z_mX7_put z_vX7_put z_wX10_86 (gX7_put hst fu s25 x26 a7 a5) rfl rfl (by decide) rfl rfl ⟨by decide, by decide, by decide, by decide, Nat.le_of_ble_eq_true rfl⟩ rfl (fun s27 => ?_)
  refine G_iload (x := a6) (pc := 120) dX10_measureUnit_120 rfl ?_
  refine G_iload (x := t0) (pc := 122) dX10_measureUnit_122 rfl ?_
  refine G_iadd (pc := 124) dX10_measureUnit_124 (fun x28 => ?_)
  refine G_istore (lv' := [vR a0, vI a1, vI a2, vI a3, vI a4, vI a5, vI x28, vI a7, vI t0]) (pc := 125) dX10_measureUnit_125 rfl ?_
  refine G_iinc (x := a7) (g := fun x29 => [vR a0, vI a1, vI a2, vI a3, vI a4, vI a5, vI x28, vI x29, vI t0]) (pc := 127) dX10_measureUnit_127 rfl (fun _ => rfl) (fun x29 => ?_)
  refine G_goto (tgt := 55) (pc := 130) dX10_measureUnit_130 ?_
  refine G_fg (lv2 := [vR a0, vI a1, vI a2, vI a3, vI a4, vI a5, vI x28, vI x29, vU]) ⟨Or.inr rfl, Or.inr rfl, Or.inr rfl, Or.inr rfl, Or.inr rfl, Or.inr rfl, Or.inr rfl, Or.inr rfl, Or.inl rfl, trivial⟩ ?_
  exact hr s27 x28 x29
def fX10_measureUnit_L55 (fu : Nat) (a0 : Int) (a1 : Int) (a2 : Int) (a3 : Int) (a4 : Int) (a5 : Int) : Nat → z_M → Int → Int → (z_M → Int → z_O) → z_O
  | 0, _, _, _, _ => none
  | F + 1, s, a6, a7, k => z_let (z_w (a2 + a3)) (fun x14 => if (x14 : Int) ≤ a7 then (k s a6) else (if (a4 : Int) = 0 then (if z_ob a0 10 then z_let (z_gr a0 2) (fun x15 => if z_ob x15 7 then z_bI (fX7_get fu s x15 a1) (fun x17 s16 => if z_ob a0 10 then z_let (z_gr a0 0) (fun x18 => if z_ob x18 9 then z_let (z_gr x18 0) (fun x19 => if z_ob x19 7 then z_bI (fX7_get fu s16 x19 a7) (fun x21 s20 => z_bI (fX10_longOfSign fu s20 x17 x21) (fun x23 s22 => fX10_measureUnit_J96 fu s22 a0 a1 a2 a3 a4 a5 a6 a7 x23 (fun w v6 v7 => fX10_measureUnit_L55 fu a0 a1 a2 a3 a4 a5 F w v6 v7 k) k)) else none) else none) else none) else none) else none) else (fX10_measureUnit_J96 fu s a0 a1 a2 a3 a4 a5 a6 a7 12 (fun w v6 v7 => fX10_measureUnit_L55 fu a0 a1 a2 a3 a4 a5 F w v6 v7 k) k)))
theorem gX10_measureUnit_L55 {l : Launch} {K : z_K} (hst : l.stackTraces = false) (fu : Nat) (a0 : Int) (a1 : Int) (a2 : Int) (a3 : Int) (a4 : Int) (a5 : Int) (k : z_M → Int → z_O) (hk : ∀ (s : z_M) (a6 : Int), G l K mX10_measureUnit 2 44 0 0 133 [vR a0, vI a1, vI a2, vU, vI a4, vU, vI a6, vU, vU] [] s (k s a6)) : ∀ (F : Nat) (s : z_M) (a6 : Int) (a7 : Int), G l K mX10_measureUnit 2 44 0 0 55 [vR a0, vI a1, vI a2, vI a3, vI a4, vI a5, vI a6, vI a7, vU] [] s (fX10_measureUnit_L55 fu a0 a1 a2 a3 a4 a5 F s a6 a7 k) := by
  intro F
  induction F with
  | zero => exact fun s a6 a7 h => absurd rfl h
  | succ F ih =>
    intro s a6 a7
    rw [fX10_measureUnit_L55]
    refine G_iload (x := a7) (pc := 55) dX10_measureUnit_55 rfl ?_
    refine G_iload_n (x := a2) (pc := 57) dX10_measureUnit_57 rfl ?_
    refine G_iload_n (x := a3) (pc := 58) dX10_measureUnit_58 rfl ?_
    refine G_iadd (pc := 59) dX10_measureUnit_59 (fun x14 => ?_)
    refine G_icmp_ge (tgt := 133) (pc := 60) dX10_measureUnit_60 ?_ ?_
    · refine G_fg (lv2 := [vR a0, vI a1, vI a2, vU, vI a4, vU, vI a6, vU, vU]) ⟨Or.inr rfl, Or.inr rfl, Or.inr rfl, Or.inl rfl, Or.inr rfl, Or.inl rfl, Or.inr rfl, Or.inl rfl, Or.inl rfl, trivial⟩ ?_
      exact hk s a6
    · refine G_iload (x := a4) (pc := 63) dX10_measureUnit_63 rfl ?_
      refine G_if_eq (tgt := 73) (pc := 65) dX10_measureUnit_65 ?_ ?_
      · refine G_aload_n (x := a0) (pc := 73) dX10_measureUnit_73 rfl ?_
        refine G_getR (j := 2) (pc := 74) dX10_measureUnit_74 rfl z_CLX10 (by decide) z_wX10_14 (by decide) (fun x15 => ?_)
        refine G_iload_n (x := a1) (pc := 77) dX10_measureUnit_77 rfl ?_
        refine G_callVI (as := [vI a1]) (st := []) (c := 7) (bc2 := 0) (bs2 := 0) (pc := 78) dX10_measureUnit_78 z_mX7_get z_vX7_get z_wX10_109 (gX7_get hst fu s x15 a1) rfl rfl (by decide) rfl rfl ⟨by decide, by decide, by decide, by decide, Nat.le_of_ble_eq_true rfl⟩ rfl (fun x17 s16 => ?_)
        refine G_aload_n (x := a0) (pc := 81) dX10_measureUnit_81 rfl ?_
        refine G_getR (j := 0) (pc := 82) dX10_measureUnit_82 rfl z_CLX10 (by decide) z_wX10_59 (by decide) (fun x18 => ?_)
        refine G_getR (j := 0) (pc := 85) dX10_measureUnit_85 rfl z_CLX9 (by decide) z_wX10_112 (by decide) (fun x19 => ?_)
        refine G_iload (x := a7) (pc := 88) dX10_measureUnit_88 rfl ?_
        refine G_callVI (as := [vI a7]) (st := [vI x17]) (c := 7) (bc2 := 0) (bs2 := 0) (pc := 90) dX10_measureUnit_90 z_mX7_get z_vX7_get z_wX10_109 (gX7_get hst fu s16 x19 a7) rfl rfl (by decide) rfl rfl ⟨by decide, by decide, by decide, by decide, Nat.le_of_ble_eq_true rfl⟩ rfl (fun x21 s20 => ?_)
        refine G_callSI (as := [vI x17, vI x21]) (st := []) (bc2 := 0) (bs2 := 0) (pc := 93) dX10_measureUnit_93 z_mX10_longOfSign z_sX10_longOfSign z_wX10_123 (gX10_longOfSign hst fu s20 x17 x21) rfl rfl ⟨by decide, by decide, by decide, by decide, Nat.le_of_ble_eq_true rfl⟩ rfl (fun x23 s22 => ?_)
        exact gX10_measureUnit_J96 hst fu s22 a0 a1 a2 a3 a4 a5 a6 a7 x23 _ _ (fun w v6 v7 => ih w v6 v7) hk
      · refine G_bipush (pc := 68) dX10_measureUnit_68 ?_
        refine G_goto (tgt := 96) (pc := 70) dX10_measureUnit_70 ?_
        exact gX10_measureUnit_J96 hst fu s a0 a1 a2 a3 a4 a5 a6 a7 12 _ _ (fun w v6 v7 => ih w v6 v7) hk
def fX10_measureUnit_J150 (fu : Nat) (s : z_M) (a0 : Int) (a1 : Int) (a2 : Int) (t0 : Int) (t1 : Int) (t2 : Int) : z_O := if z_ob t0 7 then z_bN (fX7_put fu s t0 t1 t2) (fun s33 => if z_ob a0 10 then z_let (z_gr a0 6) (fun x34 => if z_ob a0 10 then z_let (z_gr a0 0) (fun x35 => if z_ob x35 9 then z_let (z_gr x35 2) (fun x36 => if z_ob x36 7 then z_bI (fX7_get fu s33 x36 a2) (fun x38 s37 => if z_ob x34 7 then z_bN (fX7_put fu s37 x34 a1 x38) (fun s39 => if z_ob a0 10 then z_let (z_gr a0 7) (fun x40 => if z_ob a0 10 then z_let (z_gr a0 0) (fun x41 => if z_ob x41 9 then z_bI (fX9_letterCount fu s39 x41 0 a2) (fun x43 s42 => if z_ob x40 7 then z_bN (fX7_put fu s42 x40 a1 x43) (fun s44 => if z_ob a0 10 then z_let (z_gr a0 8) (fun x45 => if z_ob a0 10 then z_let (z_gr a0 0) (fun x46 => if z_ob x46 9 then z_bI (fX9_letterCount fu s44 x46 1 a2) (fun x48 s47 => if z_ob x45 7 then z_bN (fX7_put fu s47 x45 a1 x48) (fun s49 => some (vN, s49)) else none) else none) else none) else none) else none) else none) else none) else none) else none) else none) else none) else none) else none) else none
theorem gX10_measureUnit_J150 {l : Launch} {K : z_K} (hst : l.stackTraces = false) (fu : Nat) (s : z_M) (a0 : Int) (a1 : Int) (a2 : Int) (t0 : Int) (t1 : Int) (t2 : Int) : G l K mX10_measureUnit 2 44 0 0 150 [vR a0, vI a1, vI a2, vU, vU, vU, vU, vU, vU] [vI t2, vI t1, vR t0] s (fX10_measureUnit_J150 fu s a0 a1 a2 t0 t1 t2) := by
  unfold fX10_measureUnit_J150
  refine G_callVN (as := [vI t1, vI t2]) (st := []) (c := 7) (bc2 := 0) (bs2 := 0) (pc := 150) dX10_measureUnit_150 z_mX7_put z_vX7_put z_wX10_86 (gX7_put hst fu s t0 t1 t2) rfl rfl (by decide) rfl rfl ⟨by decide, by decide, by decide, by decide, Nat.le_of_ble_eq_true rfl⟩ rfl (fun s33 => ?_)
  refine G_aload_n (x := a0) (pc := 153) dX10_measureUnit_153 rfl ?_
  refine G_getR (j := 6) (pc := 154) dX10_measureUnit_154 rfl z_CLX10 (by decide) z_wX10_29 (by decide) (fun x34 => ?_)
  refine G_iload_n (x := a1) (pc := 157) dX10_measureUnit_157 rfl ?_
  refine G_aload_n (x := a0) (pc := 158) dX10_measureUnit_158 rfl ?_
  refine G_getR (j := 0) (pc := 159) dX10_measureUnit_159 rfl z_CLX10 (by decide) z_wX10_59 (by decide) (fun x35 => ?_)
  refine G_getR (j := 2) (pc := 162) dX10_measureUnit_162 rfl z_CLX9 (by decide) z_wX10_115 (by decide) (fun x36 => ?_)
  refine G_iload_n (x := a2) (pc := 165) dX10_measureUnit_165 rfl ?_
  refine G_callVI (as := [vI a2]) (st := [vI a1, vR x34]) (c := 7) (bc2 := 0) (bs2 := 0) (pc := 166) dX10_measureUnit_166 z_mX7_get z_vX7_get z_wX10_109 (gX7_get hst fu s33 x36 a2) rfl rfl (by decide) rfl rfl ⟨by decide, by decide, by decide, by decide, Nat.le_of_ble_eq_true rfl⟩ rfl (fun x38 s37 => ?_)
  refine G_callVN (as := [vI a1, vI x38]) (st := []) (c := 7) (bc2 := 0) (bs2 := 0) (pc := 169) dX10_measureUnit_169 z_mX7_put z_vX7_put z_wX10_86 (gX7_put hst fu s37 x34 a1 x38) rfl rfl (by decide) rfl rfl ⟨by decide, by decide, by decide, by decide, Nat.le_of_ble_eq_true rfl⟩ rfl (fun s39 => ?_)
  refine G_aload_n (x := a0) (pc := 172) dX10_measureUnit_172 rfl ?_
  refine G_getR (j := 7) (pc := 173) dX10_measureUnit_173 rfl z_CLX10 (by decide) z_wX10_32 (by decide) (fun x40 => ?_)
  refine G_iload_n (x := a1) (pc := 176) dX10_measureUnit_176 rfl ?_
  refine G_aload_n (x := a0) (pc := 177) dX10_measureUnit_177 rfl ?_
  refine G_getR (j := 0) (pc := 178) dX10_measureUnit_178 rfl z_CLX10 (by decide) z_wX10_59 (by decide) (fun x41 => ?_)
  refine G_iconst (pc := 181) dX10_measureUnit_181 ?_
  refine G_iload_n (x := a2) (pc := 182) dX10_measureUnit_182 rfl ?_
  refine G_callVI (as := [vI 0, vI a2]) (st := [vI a1, vR x40]) (c := 9) (bc2 := 0) (bs2 := 0) (pc := 183) dX10_measureUnit_183 z_mX9_letterCount z_vX9_letterCount z_wX10_127 (gX9_letterCount hst fu s39 x41 0 a2) rfl rfl (by decide) rfl rfl ⟨by decide, by decide, by decide, by decide, Nat.le_of_ble_eq_true rfl⟩ rfl (fun x43 s42 => ?_)
  refine G_callVN (as := [vI a1, vI x43]) (st := []) (c := 7) (bc2 := 0) (bs2 := 0) (pc := 186) dX10_measureUnit_186 z_mX7_put z_vX7_put z_wX10_86 (gX7_put hst fu s42 x40 a1 x43) rfl rfl (by decide) rfl rfl ⟨by decide, by decide, by decide, by decide, Nat.le_of_ble_eq_true rfl⟩ rfl (fun s44 => ?_)
  refine G_aload_n (x := a0) (pc := 189) dX10_measureUnit_189 rfl ?_
  refine G_getR (j := 8) (pc := 190) dX10_measureUnit_190 rfl z_CLX10 (by decide) z_wX10_35 (by decide) (fun x45 => ?_)
  refine G_iload_n (x := a1) (pc := 193) dX10_measureUnit_193 rfl ?_
  refine G_aload_n (x := a0) (pc := 194) dX10_measureUnit_194 rfl ?_
  refine G_getR (j := 0) (pc := 195) dX10_measureUnit_195 rfl z_CLX10 (by decide) z_wX10_59 (by decide) (fun x46 => ?_)
  refine G_iconst (pc := 198) dX10_measureUnit_198 ?_
  refine G_iload_n (x := a2) (pc := 199) dX10_measureUnit_199 rfl ?_
  refine G_callVI (as := [vI 1, vI a2]) (st := [vI a1, vR x45]) (c := 9) (bc2 := 0) (bs2 := 0) (pc := 200) dX10_measureUnit_200 z_mX9_letterCount z_vX9_letterCount z_wX10_127 (gX9_letterCount hst fu s44 x46 1 a2) rfl rfl (by decide) rfl rfl ⟨by decide, by decide, by decide, by decide, Nat.le_of_ble_eq_true rfl⟩ rfl (fun x48 s47 => ?_)
  refine G_callVN (as := [vI a1, vI x48]) (st := []) (c := 7) (bc2 := 0) (bs2 := 0) (pc := 203) dX10_measureUnit_203 z_mX7_put z_vX7_put z_wX10_86 (gX7_put hst fu s47 x45 a1 x48) rfl rfl (by decide) rfl rfl ⟨by decide, by decide, by decide, by decide, Nat.le_of_ble_eq_true rfl⟩ rfl (fun s49 => ?_)
  exact G_vret (pc := 206) dX10_measureUnit_206
def fX10_measureUnit_J47 (fu : Nat) (s : z_M) (a0 : Int) (a1 : Int) (a2 : Int) (a3 : Int) (a4 : Int) (t0 : Int) : z_O := fX10_measureUnit_L55 fu a0 a1 a2 a3 a4 t0 fu s 0 a2 (fun s30 x31 => if z_ob a0 10 then z_let (z_gr a0 5) (fun x32 => if (a4 : Int) = 0 then (fX10_measureUnit_J150 fu s30 a0 a1 a2 x32 a1 x31) else (fX10_measureUnit_J150 fu s30 a0 a1 a2 x32 a1 12)) else none)
theorem gX10_measureUnit_J47 {l : Launch} {K : z_K} (hst : l.stackTraces = false) (fu : Nat) (s : z_M) (a0 : Int) (a1 : Int) (a2 : Int) (a3 : Int) (a4 : Int) (t0 : Int) : G l K mX10_measureUnit 2 44 0 0 47 [vR a0, vI a1, vI a2, vI a3, vI a4, vU, vU, vU, vU] [vI t0] s (fX10_measureUnit_J47 fu s a0 a1 a2 a3 a4 t0) := by
  unfold fX10_measureUnit_J47
  refine G_istore (lv' := [vR a0, vI a1, vI a2, vI a3, vI a4, vI t0, vU, vU, vU]) (pc := 47) dX10_measureUnit_47 rfl ?_
  refine G_iconst (pc := 49) dX10_measureUnit_49 ?_
  refine G_istore (lv' := [vR a0, vI a1, vI a2, vI a3, vI a4, vI t0, vI 0, vU, vU]) (pc := 50) dX10_measureUnit_50 rfl ?_
  refine G_iload_n (x := a2) (pc := 52) dX10_measureUnit_52 rfl ?_
  refine G_istore (lv' := [vR a0, vI a1, vI a2, vI a3, vI a4, vI t0, vI 0, vI a2, vU]) (pc := 53) dX10_measureUnit_53 rfl ?_
  refine gX10_measureUnit_L55 hst fu a0 a1 a2 a3 a4 t0 _ (fun s30 x31 => ?_) fu s 0 a2
  refine G_aload_n (x := a0) (pc := 133) dX10_measureUnit_133 rfl ?_
  refine G_getR (j := 5) (pc := 134) dX10_measureUnit_134 rfl z_CLX10 (by decide) z_wX10_26 (by decide) (fun x32 => ?_)
  refine G_iload_n (x := a1) (pc := 137) dX10_measureUnit_137 rfl ?_
  refine G_iload (x := a4) (pc := 138) dX10_measureUnit_138 rfl ?_
  refine G_if_eq (tgt := 148) (pc := 140) dX10_measureUnit_140 ?_ ?_
  · refine G_iload (x := x31) (pc := 148) dX10_measureUnit_148 rfl ?_
    refine G_fg (lv2 := [vR a0, vI a1, vI a2, vU, vU, vU, vU, vU, vU]) ⟨Or.inr rfl, Or.inr rfl, Or.inr rfl, Or.inl rfl, Or.inl rfl, Or.inl rfl, Or.inl rfl, Or.inl rfl, Or.inl rfl, trivial⟩ ?_
    exact gX10_measureUnit_J150 hst fu s30 a0 a1 a2 x32 a1 x31
  · refine G_bipush (pc := 143) dX10_measureUnit_143 ?_
    refine G_goto (tgt := 150) (pc := 145) dX10_measureUnit_145 ?_
    refine G_fg (lv2 := [vR a0, vI a1, vI a2, vU, vU, vU, vU, vU, vU]) ⟨Or.inr rfl, Or.inr rfl, Or.inr rfl, Or.inl rfl, Or.inl rfl, Or.inl rfl, Or.inl rfl, Or.inl rfl, Or.inl rfl, trivial⟩ ?_
    exact gX10_measureUnit_J150 hst fu s30 a0 a1 a2 x32 a1 12
def fX10_measureUnit (fu : Nat) (s : z_M) (a0 : Int) (a1 : Int) : z_O := if z_ob a0 10 then z_let (z_gr a0 3) (fun x1 => if z_ob x1 7 then z_bI (fX7_get fu s x1 a1) (fun x3 s2 => if z_ob a0 10 then z_let (z_gr a0 4) (fun x4 => if z_ob x4 7 then z_bI (fX7_get fu s2 x4 a1) (fun x6 s5 => if z_ob a0 10 then z_bI (fX10_isAcross fu s5 a0 a1) (fun x8 s7 => if z_ob a0 10 then z_let (z_gr a0 2) (fun x9 => if z_ob x9 7 then z_bI (fX7_get fu s7 x9 a1) (fun x11 s10 => if z_ob a0 10 then z_bI (fX10_isTurned fu s10 a0 x11 x8) (fun x13 s12 => if (x13 : Int) = 0 then (fX10_measureUnit_J47 fu s12 a0 a1 x3 x6 x8 0) else (fX10_measureUnit_J47 fu s12 a0 a1 x3 x6 x8 1)) else none) else none) else none) else none) else none) else none) else none) else none
theorem gX10_measureUnit {l : Launch} {K : z_K} (hst : l.stackTraces = false) (fu : Nat) (s : z_M) (a0 : Int) (a1 : Int) : z_D l K mX10_measureUnit 2 44 0 0 [vR a0, vI a1] s (fX10_measureUnit fu s a0 a1) := by
  refine z_D_of (lv := [vR a0, vI a1, vU, vU, vU, vU, vU, vU, vU]) hst z_mX10_measureUnit rfl ?_ (Nat.le_of_ble_eq_true rfl) rfl
  unfold fX10_measureUnit
  refine G_aload_n (x := a0) (pc := 0) dX10_measureUnit_0 rfl ?_
  refine G_getR (j := 3) (pc := 1) dX10_measureUnit_1 rfl z_CLX10 (by decide) z_wX10_20 (by decide) (fun x1 => ?_)
  refine G_iload_n (x := a1) (pc := 4) dX10_measureUnit_4 rfl ?_
  refine G_callVI (as := [vI a1]) (st := []) (c := 7) (bc2 := 0) (bs2 := 0) (pc := 5) dX10_measureUnit_5 z_mX7_get z_vX7_get z_wX10_109 (gX7_get hst fu s x1 a1) rfl rfl (by decide) rfl rfl ⟨by decide, by decide, by decide, by decide, Nat.le_of_ble_eq_true rfl⟩ rfl (fun x3 s2 => ?_)
  refine G_istore_n (lv' := [vR a0, vI a1, vI x3, vU, vU, vU, vU, vU, vU]) (pc := 8) dX10_measureUnit_8 rfl ?_
  refine G_aload_n (x := a0) (pc := 9) dX10_measureUnit_9 rfl ?_
  refine G_getR (j := 4) (pc := 10) dX10_measureUnit_10 rfl z_CLX10 (by decide) z_wX10_23 (by decide) (fun x4 => ?_)
  refine G_iload_n (x := a1) (pc := 13) dX10_measureUnit_13 rfl ?_
  refine G_callVI (as := [vI a1]) (st := []) (c := 7) (bc2 := 0) (bs2 := 0) (pc := 14) dX10_measureUnit_14 z_mX7_get z_vX7_get z_wX10_109 (gX7_get hst fu s2 x4 a1) rfl rfl (by decide) rfl rfl ⟨by decide, by decide, by decide, by decide, Nat.le_of_ble_eq_true rfl⟩ rfl (fun x6 s5 => ?_)
  refine G_istore_n (lv' := [vR a0, vI a1, vI x3, vI x6, vU, vU, vU, vU, vU]) (pc := 17) dX10_measureUnit_17 rfl ?_
  refine G_aload_n (x := a0) (pc := 18) dX10_measureUnit_18 rfl ?_
  refine G_iload_n (x := a1) (pc := 19) dX10_measureUnit_19 rfl ?_
  refine G_callVI (as := [vI a1]) (st := []) (c := 10) (bc2 := 0) (bs2 := 0) (pc := 20) dX10_measureUnit_20 z_mX10_isAcross z_vX10_isAcross z_wX10_116 (gX10_isAcross hst fu s5 a0 a1) rfl rfl (by decide) rfl rfl ⟨by decide, by decide, by decide, by decide, Nat.le_of_ble_eq_true rfl⟩ rfl (fun x8 s7 => ?_)
  refine G_istore (lv' := [vR a0, vI a1, vI x3, vI x6, vI x8, vU, vU, vU, vU]) (pc := 23) dX10_measureUnit_23 rfl ?_
  refine G_aload_n (x := a0) (pc := 25) dX10_measureUnit_25 rfl ?_
  refine G_aload_n (x := a0) (pc := 26) dX10_measureUnit_26 rfl ?_
  refine G_getR (j := 2) (pc := 27) dX10_measureUnit_27 rfl z_CLX10 (by decide) z_wX10_14 (by decide) (fun x9 => ?_)
  refine G_iload_n (x := a1) (pc := 30) dX10_measureUnit_30 rfl ?_
  refine G_callVI (as := [vI a1]) (st := [vR a0]) (c := 7) (bc2 := 0) (bs2 := 0) (pc := 31) dX10_measureUnit_31 z_mX7_get z_vX7_get z_wX10_109 (gX7_get hst fu s7 x9 a1) rfl rfl (by decide) rfl rfl ⟨by decide, by decide, by decide, by decide, Nat.le_of_ble_eq_true rfl⟩ rfl (fun x11 s10 => ?_)
  refine G_iload (x := x8) (pc := 34) dX10_measureUnit_34 rfl ?_
  refine G_callVI (as := [vI x11, vI x8]) (st := []) (c := 10) (bc2 := 0) (bs2 := 0) (pc := 36) dX10_measureUnit_36 z_mX10_isTurned z_vX10_isTurned z_wX10_119 (gX10_isTurned hst fu s10 a0 x11 x8) rfl rfl (by decide) rfl rfl ⟨by decide, by decide, by decide, by decide, Nat.le_of_ble_eq_true rfl⟩ rfl (fun x13 s12 => ?_)
  refine G_if_eq (tgt := 46) (pc := 39) dX10_measureUnit_39 ?_ ?_
  · refine G_iconst (pc := 46) dX10_measureUnit_46 ?_
    exact gX10_measureUnit_J47 hst fu s12 a0 a1 x3 x6 x8 0
  · refine G_iconst (pc := 42) dX10_measureUnit_42 ?_
    refine G_goto (tgt := 47) (pc := 43) dX10_measureUnit_43 ?_
    exact gX10_measureUnit_J47 hst fu s12 a0 a1 x3 x6 x8 1
def fX10_addUp_J99 (fu : Nat) (s : z_M) (a0 : Int) (a1 : Int) (t0 : Int) (t1 : Int) (t2 : Int) (t3 : Int) (r : z_M → Int → z_O) (k : z_M → z_O) : z_O := z_let (z_w (t2 + t3)) (fun x23 => if z_ob t0 7 then z_bN (fX7_put fu s t0 t1 x23) (fun s24 => z_let (z_w (a1 + 1)) (fun x25 => r s24 x25)) else none)
theorem gX10_addUp_J99 {l : Launch} {K : z_K} (hst : l.stackTraces = false) (fu : Nat) (s : z_M) (a0 : Int) (a1 : Int) (t0 : Int) (t1 : Int) (t2 : Int) (t3 : Int) (r : z_M → Int → z_O) (k : z_M → z_O) (hr : ∀ (s : z_M) (a1 : Int), G l K mX10_addUp 1 22 0 0 2 [vR a0, vI a1, vU] [] s (r s a1)) (hk : ∀ (s : z_M), G l K mX10_addUp 1 22 0 0 109 [vU, vU, vU] [] s (k s)) : G l K mX10_addUp 1 22 0 0 99 [vR a0, vI a1, vU] [vI t3, vI t2, vI t1, vR t0] s (fX10_addUp_J99 fu s a0 a1 t0 t1 t2 t3 r k) := by
  unfold fX10_addUp_J99
  refine G_iadd (pc := 99) dX10_addUp_99 (fun x23 => ?_)
  refine G_callVN (as := [vI t1, vI x23]) (st := []) (c := 7) (bc2 := 0) (bs2 := 0) (pc := 100) dX10_addUp_100 z_mX7_put z_vX7_put z_wX10_86 (gX7_put hst fu s t0 t1 x23) rfl rfl (by decide) rfl rfl ⟨by decide, by decide, by decide, by decide, Nat.le_of_ble_eq_true rfl⟩ rfl (fun s24 => ?_)
  refine G_iinc (x := a1) (g := fun x25 => [vR a0, vI x25, vU]) (pc := 103) dX10_addUp_103 rfl (fun _ => rfl) (fun x25 => ?_)
  refine G_goto (tgt := 2) (pc := 106) dX10_addUp_106 ?_
  exact hr s24 x25
def fX10_addUp_J40 (fu : Nat) (s : z_M) (a0 : Int) (a1 : Int) (t0 : Int) (r : z_M → Int → z_O) (k : z_M → z_O) : z_O := if z_ob a0 10 then z_let (z_gr a0 11) (fun x5 => z_let (z_w (a1 + 1)) (fun x6 => if z_ob a0 10 then z_let (z_gr a0 11) (fun x7 => if z_ob x7 7 then z_bI (fX7_get fu s x7 a1) (fun x9 s8 => if z_ob a0 10 then z_let (z_gr a0 5) (fun x10 => if z_ob x10 7 then z_bI (fX7_get fu s8 x10 a1) (fun x12 s11 => z_let (z_w (x9 + x12)) (fun x13 => if z_ob x5 7 then z_bN (fX7_put fu s11 x5 x6 x13) (fun s14 => if z_ob a0 10 then z_let (z_gr a0 12) (fun x15 => z_let (z_w (a1 + 1)) (fun x16 => if z_ob a0 10 then z_let (z_gr a0 12) (fun x17 => if z_ob x17 7 then z_bI (fX7_get fu s14 x17 a1) (fun x19 s18 => if (t0 : Int) = 0 then (if z_ob a0 10 then z_let (z_gr a0 5) (fun x20 => if z_ob x20 7 then z_bI (fX7_get fu s18 x20 a1) (fun x22 s21 => fX10_addUp_J99 fu s21 a0 a1 x15 x16 x19 x22 (fun w v1 => r w v1) k) else none) else none) else (fX10_addUp_J99 fu s18 a0 a1 x15 x16 x19 0 (fun w v1 => r w v1) k)) else none) else none)) else none) else none)) else none) else none) else none) else none)) else none
theorem gX10_addUp_J40 {l : Launch} {K : z_K} (hst : l.stackTraces = false) (fu : Nat) (s : z_M) (a0 : Int) (a1 : Int) (t0 : Int) (r : z_M → Int → z_O) (k : z_M → z_O) (hr : ∀ (s : z_M) (a1 : Int), G l K mX10_addUp 1 22 0 0 2 [vR a0, vI a1, vU] [] s (r s a1)) (hk : ∀ (s : z_M), G l K mX10_addUp 1 22 0 0 109 [vU, vU, vU] [] s (k s)) : G l K mX10_addUp 1 22 0 0 40 [vR a0, vI a1, vU] [vI t0] s (fX10_addUp_J40 fu s a0 a1 t0 r k) := by
  unfold fX10_addUp_J40
  refine G_istore_n (lv' := [vR a0, vI a1, vI t0]) (pc := 40) dX10_addUp_40 rfl ?_
  refine G_aload_n (x := a0) (pc := 41) dX10_addUp_41 rfl ?_
  refine G_getR (j := 11) (pc := 42) dX10_addUp_42 rfl z_CLX10 (by decide) z_wX10_44 (by decide) (fun x5 => ?_)
  refine G_iload_n (x := a1) (pc := 45) dX10_addUp_45 rfl ?_
  refine G_iconst (pc := 46) dX10_addUp_46 ?_
  refine G_iadd (pc := 47) dX10_addUp_47 (fun x6 => ?_)
  refine G_aload_n (x := a0) (pc := 48) dX10_addUp_48 rfl ?_
  refine G_getR (j := 11) (pc := 49) dX10_addUp_49 rfl z_CLX10 (by decide) z_wX10_44 (by decide) (fun x7 => ?_)
  refine G_iload_n (x := a1) (pc := 52) dX10_addUp_52 rfl ?_
  refine G_callVI (as := [vI a1]) (st := [vI x6, vR x5]) (c := 7) (bc2 := 0) (bs2 := 0) (pc := 53) dX10_addUp_53 z_mX7_get z_vX7_get z_wX10_109 (gX7_get hst fu s x7 a1) rfl rfl (by decide) rfl rfl ⟨by decide, by decide, by decide, by decide, Nat.le_of_ble_eq_true rfl⟩ rfl (fun x9 s8 => ?_)
  refine G_aload_n (x := a0) (pc := 56) dX10_addUp_56 rfl ?_
  refine G_getR (j := 5) (pc := 57) dX10_addUp_57 rfl z_CLX10 (by decide) z_wX10_26 (by decide) (fun x10 => ?_)
  refine G_iload_n (x := a1) (pc := 60) dX10_addUp_60 rfl ?_
  refine G_callVI (as := [vI a1]) (st := [vI x9, vI x6, vR x5]) (c := 7) (bc2 := 0) (bs2 := 0) (pc := 61) dX10_addUp_61 z_mX7_get z_vX7_get z_wX10_109 (gX7_get hst fu s8 x10 a1) rfl rfl (by decide) rfl rfl ⟨by decide, by decide, by decide, by decide, Nat.le_of_ble_eq_true rfl⟩ rfl (fun x12 s11 => ?_)
  refine G_iadd (pc := 64) dX10_addUp_64 (fun x13 => ?_)
  refine G_callVN (as := [vI x6, vI x13]) (st := []) (c := 7) (bc2 := 0) (bs2 := 0) (pc := 65) dX10_addUp_65 z_mX7_put z_vX7_put z_wX10_86 (gX7_put hst fu s11 x5 x6 x13) rfl rfl (by decide) rfl rfl ⟨by decide, by decide, by decide, by decide, Nat.le_of_ble_eq_true rfl⟩ rfl (fun s14 => ?_)
  refine G_aload_n (x := a0) (pc := 68) dX10_addUp_68 rfl ?_
  refine G_getR (j := 12) (pc := 69) dX10_addUp_69 rfl z_CLX10 (by decide) z_wX10_47 (by decide) (fun x15 => ?_)
  refine G_iload_n (x := a1) (pc := 72) dX10_addUp_72 rfl ?_
  refine G_iconst (pc := 73) dX10_addUp_73 ?_
  refine G_iadd (pc := 74) dX10_addUp_74 (fun x16 => ?_)
  refine G_aload_n (x := a0) (pc := 75) dX10_addUp_75 rfl ?_
  refine G_getR (j := 12) (pc := 76) dX10_addUp_76 rfl z_CLX10 (by decide) z_wX10_47 (by decide) (fun x17 => ?_)
  refine G_iload_n (x := a1) (pc := 79) dX10_addUp_79 rfl ?_
  refine G_callVI (as := [vI a1]) (st := [vI x16, vR x15]) (c := 7) (bc2 := 0) (bs2 := 0) (pc := 80) dX10_addUp_80 z_mX7_get z_vX7_get z_wX10_109 (gX7_get hst fu s14 x17 a1) rfl rfl (by decide) rfl rfl ⟨by decide, by decide, by decide, by decide, Nat.le_of_ble_eq_true rfl⟩ rfl (fun x19 s18 => ?_)
  refine G_iload_n (x := t0) (pc := 83) dX10_addUp_83 rfl ?_
  refine G_if_eq (tgt := 91) (pc := 84) dX10_addUp_84 ?_ ?_
  · refine G_aload_n (x := a0) (pc := 91) dX10_addUp_91 rfl ?_
    refine G_getR (j := 5) (pc := 92) dX10_addUp_92 rfl z_CLX10 (by decide) z_wX10_26 (by decide) (fun x20 => ?_)
    refine G_iload_n (x := a1) (pc := 95) dX10_addUp_95 rfl ?_
    refine G_callVI (as := [vI a1]) (st := [vI x19, vI x16, vR x15]) (c := 7) (bc2 := 0) (bs2 := 0) (pc := 96) dX10_addUp_96 z_mX7_get z_vX7_get z_wX10_109 (gX7_get hst fu s18 x20 a1) rfl rfl (by decide) rfl rfl ⟨by decide, by decide, by decide, by decide, Nat.le_of_ble_eq_true rfl⟩ rfl (fun x22 s21 => ?_)
    refine G_fg (lv2 := [vR a0, vI a1, vU]) ⟨Or.inr rfl, Or.inr rfl, Or.inl rfl, trivial⟩ ?_
    exact gX10_addUp_J99 hst fu s21 a0 a1 x15 x16 x19 x22 _ _ (fun w v1 => hr w v1) hk
  · refine G_iconst (pc := 87) dX10_addUp_87 ?_
    refine G_goto (tgt := 99) (pc := 88) dX10_addUp_88 ?_
    refine G_fg (lv2 := [vR a0, vI a1, vU]) ⟨Or.inr rfl, Or.inr rfl, Or.inl rfl, trivial⟩ ?_
    exact gX10_addUp_J99 hst fu s18 a0 a1 x15 x16 x19 0 _ _ (fun w v1 => hr w v1) hk
def fX10_addUp_J35 (fu : Nat) (s : z_M) (a0 : Int) (a1 : Int) (r : z_M → Int → z_O) (k : z_M → z_O) : z_O := fX10_addUp_J40 fu s a0 a1 1 (fun w v1 => r w v1) k
theorem gX10_addUp_J35 {l : Launch} {K : z_K} (hst : l.stackTraces = false) (fu : Nat) (s : z_M) (a0 : Int) (a1 : Int) (r : z_M → Int → z_O) (k : z_M → z_O) (hr : ∀ (s : z_M) (a1 : Int), G l K mX10_addUp 1 22 0 0 2 [vR a0, vI a1, vU] [] s (r s a1)) (hk : ∀ (s : z_M), G l K mX10_addUp 1 22 0 0 109 [vU, vU, vU] [] s (k s)) : G l K mX10_addUp 1 22 0 0 35 [vR a0, vI a1, vU] [] s (fX10_addUp_J35 fu s a0 a1 r k) := by
  unfold fX10_addUp_J35
  refine G_iconst (pc := 35) dX10_addUp_35 ?_
  refine G_goto (tgt := 40) (pc := 36) dX10_addUp_36 ?_
  exact gX10_addUp_J40 hst fu s a0 a1 1 _ _ (fun w v1 => hr w v1) hk
def fX10_addUp_L2 (fu : Nat) (a0 : Int) : Nat → z_M → Int → (z_M → z_O) → z_O
  | 0, _, _, _ => none
  | F + 1, s, a1, k => if z_ob a0 10 then z_let (s a0 16) (fun x1 => if (x1 : Int) ≤ a1 then (k s) else (if z_ob a0 10 then z_let (z_gr a0 2) (fun x2 => if z_ob x2 7 then z_bI (fX7_get fu s x2 a1) (fun x4 s3 => if (x4 : Int) = 6 then (fX10_addUp_J35 fu s3 a0 a1 (fun w v1 => fX10_addUp_L2 fu a0 F w v1 k) k) else (if z_ob a0 10 then z_let (z_gr a0 2) (fun x26 => if z_ob x26 7 then z_bI (fX7_get fu s3 x26 a1) (fun x28 s27 => if (x28 : Int) ≠ 3 then (fX10_addUp_J40 fu s27 a0 a1 0 (fun w v1 => fX10_addUp_L2 fu a0 F w v1 k) k) else (fX10_addUp_J35 fu s27 a0 a1 (fun w v1 => fX10_addUp_L2 fu a0 F w v1 k) k)) else none) else none)) else none) else none)) else none
theorem gX10_addUp_L2 {l : Launch} {K : z_K} (hst : l.stackTraces = false) (fu : Nat) (a0 : Int) (k : z_M → z_O) (hk : ∀ (s : z_M), G l K mX10_addUp 1 22 0 0 109 [vU, vU, vU] [] s (k s)) : ∀ (F : Nat) (s : z_M) (a1 : Int), G l K mX10_addUp 1 22 0 0 2 [vR a0, vI a1, vU] [] s (fX10_addUp_L2 fu a0 F s a1 k) := by
  intro F
  induction F with
  | zero => exact fun s a1 h => absurd rfl h
  | succ F ih =>
    intro s a1
    rw [fX10_addUp_L2]
    refine G_iload_n (x := a1) (pc := 2) dX10_addUp_2 rfl ?_
    refine G_aload_n (x := a0) (pc := 3) dX10_addUp_3 rfl ?_
    refine G_getI (j := 16) (pc := 4) dX10_addUp_4 rfl z_CLX10 (by decide) z_wX10_69 (by decide) (fun x1 => ?_)
    refine G_icmp_ge (tgt := 109) (pc := 7) dX10_addUp_7 ?_ ?_
    · refine G_fg (lv2 := [vU, vU, vU]) ⟨Or.inl rfl, Or.inl rfl, Or.inl rfl, trivial⟩ ?_
      exact hk s
    · refine G_aload_n (x := a0) (pc := 10) dX10_addUp_10 rfl ?_
      refine G_getR (j := 2) (pc := 11) dX10_addUp_11 rfl z_CLX10 (by decide) z_wX10_14 (by decide) (fun x2 => ?_)
      refine G_iload_n (x := a1) (pc := 14) dX10_addUp_14 rfl ?_
      refine G_callVI (as := [vI a1]) (st := []) (c := 7) (bc2 := 0) (bs2 := 0) (pc := 15) dX10_addUp_15 z_mX7_get z_vX7_get z_wX10_109 (gX7_get hst fu s x2 a1) rfl rfl (by decide) rfl rfl ⟨by decide, by decide, by decide, by decide, Nat.le_of_ble_eq_true rfl⟩ rfl (fun x4 s3 => ?_)
      refine G_bipush (pc := 18) dX10_addUp_18 ?_
      refine G_icmp_eq (tgt := 35) (pc := 20) dX10_addUp_20 ?_ ?_
      · exact gX10_addUp_J35 hst fu s3 a0 a1 _ _ (fun w v1 => ih w v1) hk
      · refine G_aload_n (x := a0) (pc := 23) dX10_addUp_23 rfl ?_
        refine G_getR (j := 2) (pc := 24) dX10_addUp_24 rfl z_CLX10 (by decide) z_wX10_14 (by decide) (fun x26 => ?_)
        refine G_iload_n (x := a1) (pc := 27) dX10_addUp_27 rfl ?_
        refine G_callVI (as := [vI a1]) (st := []) (c := 7) (bc2 := 0) (bs2 := 0) (pc := 28) dX10_addUp_28 z_mX7_get z_vX7_get z_wX10_109 (gX7_get hst fu s3 x26 a1) rfl rfl (by decide) rfl rfl ⟨by decide, by decide, by decide, by decide, Nat.le_of_ble_eq_true rfl⟩ rfl (fun x28 s27 => ?_)
        refine G_iconst (pc := 31) dX10_addUp_31 ?_
        refine G_icmp_ne (tgt := 39) (pc := 32) dX10_addUp_32 ?_ ?_
        · refine G_iconst (pc := 39) dX10_addUp_39 ?_
          exact gX10_addUp_J40 hst fu s27 a0 a1 0 _ _ (fun w v1 => ih w v1) hk
        · exact gX10_addUp_J35 hst fu s27 a0 a1 _ _ (fun w v1 => ih w v1) hk
def fX10_addUp (fu : Nat) (s : z_M) (a0 : Int) : z_O := fX10_addUp_L2 fu a0 fu s 0 (fun s29 => some (vN, s29))
theorem gX10_addUp {l : Launch} {K : z_K} (hst : l.stackTraces = false) (fu : Nat) (s : z_M) (a0 : Int) : z_D l K mX10_addUp 1 22 0 0 [vR a0] s (fX10_addUp fu s a0) := by
  refine z_D_of (lv := [vR a0, vU, vU]) hst z_mX10_addUp rfl ?_ (Nat.le_of_ble_eq_true rfl) rfl
  unfold fX10_addUp
  refine G_iconst (pc := 0) dX10_addUp_0 ?_
  refine G_istore_n (lv' := [vR a0, vI 0, vU]) (pc := 1) dX10_addUp_1 rfl ?_
  refine gX10_addUp_L2 hst fu a0 _ (fun s29 => ?_) fu s 0
  exact G_vret (pc := 109) dX10_addUp_109
def fX10_latestOpen_J34 (fu : Nat) (s : z_M) (a0 : Int) (a2 : Int) (r : z_M → Int → z_O) (k : z_M → z_O) : z_O := z_let (z_w (a2 + (-1))) (fun x5 => r s x5)
theorem gX10_latestOpen_J34 {l : Launch} {K : z_K} (hst : l.stackTraces = false) (fu : Nat) (s : z_M) (a0 : Int) (a2 : Int) (r : z_M → Int → z_O) (k : z_M → z_O) (hr : ∀ (s : z_M) (a2 : Int), G l K mX10_latestOpen 1 21 0 0 4 [vR a0, vU, vI a2] [] s (r s a2)) (hk : ∀ (s : z_M), G l K mX10_latestOpen 1 21 0 0 40 [vU, vU, vU] [] s (k s)) : G l K mX10_latestOpen 1 21 0 0 34 [vR a0, vU, vI a2] [] s (fX10_latestOpen_J34 fu s a0 a2 r k) := by
  unfold fX10_latestOpen_J34
  refine G_iinc (x := a2) (g := fun x5 => [vR a0, vU, vI x5]) (pc := 34) dX10_latestOpen_34 rfl (fun _ => rfl) (fun x5 => ?_)
  refine G_goto (tgt := 4) (pc := 37) dX10_latestOpen_37 ?_
  exact hr s x5
def fX10_latestOpen_L4 (fu : Nat) (a0 : Int) : Nat → z_M → Int → (z_M → z_O) → z_O
  | 0, _, _, _ => none
  | F + 1, s, a2, k => if (a2 : Int) < 0 then (k s) else (if z_ob a0 10 then z_let (z_gr a0 2) (fun x2 => if z_ob x2 7 then z_bI (fX7_get fu s x2 a2) (fun x4 s3 => if (x4 : Int) ≠ 4 then (fX10_latestOpen_J34 fu s3 a0 a2 (fun w v2 => fX10_latestOpen_L4 fu a0 F w v2 k) k) else (if z_ob a0 10 then z_let (z_gr a0 9) (fun x6 => if z_ob x6 7 then z_bI (fX7_get fu s3 x6 a2) (fun x8 s7 => if (x8 : Int) ≠ (-1) then (fX10_latestOpen_J34 fu s7 a0 a2 (fun w v2 => fX10_latestOpen_L4 fu a0 F w v2 k) k) else (some (vI a2, s7))) else none) else none)) else none) else none)
theorem gX10_latestOpen_L4 {l : Launch} {K : z_K} (hst : l.stackTraces = false) (fu : Nat) (a0 : Int) (k : z_M → z_O) (hk : ∀ (s : z_M), G l K mX10_latestOpen 1 21 0 0 40 [vU, vU, vU] [] s (k s)) : ∀ (F : Nat) (s : z_M) (a2 : Int), G l K mX10_latestOpen 1 21 0 0 4 [vR a0, vU, vI a2] [] s (fX10_latestOpen_L4 fu a0 F s a2 k) := by
  intro F
  induction F with
  | zero => exact fun s a2 h => absurd rfl h
  | succ F ih =>
    intro s a2
    rw [fX10_latestOpen_L4]
    refine G_iload_n (x := a2) (pc := 4) dX10_latestOpen_4 rfl ?_
    refine G_if_lt (tgt := 40) (pc := 5) dX10_latestOpen_5 ?_ ?_
    · refine G_fg (lv2 := [vU, vU, vU]) ⟨Or.inl rfl, Or.inl rfl, Or.inl rfl, trivial⟩ ?_
      exact hk s
    · refine G_aload_n (x := a0) (pc := 8) dX10_latestOpen_8 rfl ?_
      refine G_getR (j := 2) (pc := 9) dX10_latestOpen_9 rfl z_CLX10 (by decide) z_wX10_14 (by decide) (fun x2 => ?_)
      refine G_iload_n (x := a2) (pc := 12) dX10_latestOpen_12 rfl ?_
      refine G_callVI (as := [vI a2]) (st := []) (c := 7) (bc2 := 0) (bs2 := 0) (pc := 13) dX10_latestOpen_13 z_mX7_get z_vX7_get z_wX10_109 (gX7_get hst fu s x2 a2) rfl rfl (by decide) rfl rfl ⟨by decide, by decide, by decide, by decide, Nat.le_of_ble_eq_true rfl⟩ rfl (fun x4 s3 => ?_)
      refine G_iconst (pc := 16) dX10_latestOpen_16 ?_
      refine G_icmp_ne (tgt := 34) (pc := 17) dX10_latestOpen_17 ?_ ?_
      · exact gX10_latestOpen_J34 hst fu s3 a0 a2 _ _ (fun w v2 => ih w v2) hk
      · refine G_aload_n (x := a0) (pc := 20) dX10_latestOpen_20 rfl ?_
        refine G_getR (j := 9) (pc := 21) dX10_latestOpen_21 rfl z_CLX10 (by decide) z_wX10_38 (by decide) (fun x6 => ?_)
        refine G_iload_n (x := a2) (pc := 24) dX10_latestOpen_24 rfl ?_
        refine G_callVI (as := [vI a2]) (st := []) (c := 7) (bc2 := 0) (bs2 := 0) (pc := 25) dX10_latestOpen_25 z_mX7_get z_vX7_get z_wX10_109 (gX7_get hst fu s3 x6 a2) rfl rfl (by decide) rfl rfl ⟨by decide, by decide, by decide, by decide, Nat.le_of_ble_eq_true rfl⟩ rfl (fun x8 s7 => ?_)
        refine G_iconst (pc := 28) dX10_latestOpen_28 ?_
        refine G_icmp_ne (tgt := 34) (pc := 29) dX10_latestOpen_29 ?_ ?_
        · exact gX10_latestOpen_J34 hst fu s7 a0 a2 _ _ (fun w v2 => ih w v2) hk
        · refine G_iload_n (x := a2) (pc := 32) dX10_latestOpen_32 rfl ?_
          exact G_iret (pc := 33) dX10_latestOpen_33
def fX10_latestOpen (fu : Nat) (s : z_M) (a0 : Int) (a1 : Int) : z_O := z_let (z_w (a1 - 1)) (fun x1 => fX10_latestOpen_L4 fu a0 fu s x1 (fun s9 => some (vI (-1), s9)))
theorem gX10_latestOpen {l : Launch} {K : z_K} (hst : l.stackTraces = false) (fu : Nat) (s : z_M) (a0 : Int) (a1 : Int) : z_D l K mX10_latestOpen 1 21 0 0 [vR a0, vI a1] s (fX10_latestOpen fu s a0 a1) := by
  refine z_D_of (lv := [vR a0, vI a1, vU]) hst z_mX10_latestOpen rfl ?_ (Nat.le_of_ble_eq_true rfl) rfl
  unfold fX10_latestOpen
  refine G_iload_n (x := a1) (pc := 0) dX10_latestOpen_0 rfl ?_
  refine G_iconst (pc := 1) dX10_latestOpen_1 ?_
  refine G_isub (pc := 2) dX10_latestOpen_2 (fun x1 => ?_)
  refine G_istore_n (lv' := [vR a0, vI a1, vI x1]) (pc := 3) dX10_latestOpen_3 rfl ?_
  refine G_fg (lv2 := [vR a0, vU, vI x1]) ⟨Or.inr rfl, Or.inl rfl, Or.inr rfl, trivial⟩ ?_
  refine gX10_latestOpen_L4 hst fu a0 _ (fun s9 => ?_) fu s x1
  refine G_iconst (pc := 40) dX10_latestOpen_40 ?_
  exact G_iret (pc := 41) dX10_latestOpen_41
def fX10_pairUp_J79 (fu : Nat) (s : z_M) (a0 : Int) (a1 : Int) (r : z_M → Int → z_O) (k : z_M → z_O) : z_O := z_let (z_w (a1 + 1)) (fun x8 => r s x8)
theorem gX10_pairUp_J79 {l : Launch} {K : z_K} (hst : l.stackTraces = false) (fu : Nat) (s : z_M) (a0 : Int) (a1 : Int) (r : z_M → Int → z_O) (k : z_M → z_O) (hr : ∀ (s : z_M) (a1 : Int), G l K mX10_pairUp 2 43 0 0 7 [vR a0, vI a1, vU] [] s (r s a1)) (hk : ∀ (s : z_M), G l K mX10_pairUp 2 43 0 0 85 [vU, vU, vU] [] s (k s)) : G l K mX10_pairUp 2 43 0 0 79 [vR a0, vI a1, vU] [] s (fX10_pairUp_J79 fu s a0 a1 r k) := by
  unfold fX10_pairUp_J79
  refine G_iinc (x := a1) (g := fun x8 => [vR a0, vI x8, vU]) (pc := 79) dX10_pairUp_79 rfl (fun _ => rfl) (fun x8 => ?_)
  refine G_goto (tgt := 7) (pc := 82) dX10_pairUp_82 ?_
  exact hr s x8
def fX10_pairUp_J45 (fu : Nat) (s : z_M) (a0 : Int) (a1 : Int) (t0 : Int) (r : z_M → Int → z_O) (k : z_M → z_O) : z_O := if (t0 : Int) = (-1) then (fX10_pairUp_J79 fu s a0 a1 (fun w v1 => r w v1) k) else (if z_ob a0 10 then z_let (z_gr a0 9) (fun x9 => if z_ob x9 7 then z_bN (fX7_put fu s x9 a1 t0) (fun s10 => if z_ob a0 10 then z_let (z_gr a0 9) (fun x11 => if z_ob x11 7 then z_bN (fX7_put fu s10 x11 t0 a1) (fun s12 => if z_ob a0 10 then z_let (s12 a0 17) (fun x13 => z_let (z_w (x13 + 1)) (fun x14 => if z_ob a0 10 then z_let (z_up s12 a0 17 x14) (fun s15 => fX10_pairUp_J79 fu s15 a0 a1 (fun w v1 => r w v1) k) else none)) else none) else none) else none) else none) else none)
theorem gX10_pairUp_J45 {l : Launch} {K : z_K} (hst : l.stackTraces = false) (fu : Nat) (s : z_M) (a0 : Int) (a1 : Int) (t0 : Int) (r : z_M → Int → z_O) (k : z_M → z_O) (hr : ∀ (s : z_M) (a1 : Int), G l K mX10_pairUp 2 43 0 0 7 [vR a0, vI a1, vU] [] s (r s a1)) (hk : ∀ (s : z_M), G l K mX10_pairUp 2 43 0 0 85 [vU, vU, vU] [] s (k s)) : G l K mX10_pairUp 2 43 0 0 45 [vR a0, vI a1, vU] [vI t0] s (fX10_pairUp_J45 fu s a0 a1 t0 r k) := by
  unfold fX10_pairUp_J45
  refine G_istore_n (lv' := [vR a0, vI a1, vI t0]) (pc := 45) dX10_pairUp_45 rfl ?_
  refine G_iload_n (x := t0) (pc := 46) dX10_pairUp_46 rfl ?_
  refine G_iconst (pc := 47) dX10_pairUp_47 ?_
  refine G_icmp_eq (tgt := 79) (pc := 48) dX10_pairUp_48 ?_ ?_
  · refine G_fg (lv2 := [vR a0, vI a1, vU]) ⟨Or.inr rfl, Or.inr rfl, Or.inl rfl, trivial⟩ ?_
    exact gX10_pairUp_J79 hst fu s a0 a1 _ _ (fun w v1 => hr w v1) hk
  · refine G_aload_n (x := a0) (pc := 51) dX10_pairUp_51 rfl ?_
    refine G_getR (j := 9) (pc := 52) dX10_pairUp_52 rfl z_CLX10 (by decide) z_wX10_38 (by decide) (fun x9 => ?_)
    refine G_iload_n (x := a1) (pc := 55) dX10_pairUp_55 rfl ?_
    refine G_iload_n (x := t0) (pc := 56) dX10_pairUp_56 rfl ?_
    refine G_callVN (as := [vI a1, vI t0]) (st := []) (c := 7) (bc2 := 0) (bs2 := 0) (pc := 57) dX10_pairUp_57 z_mX7_put z_vX7_put z_wX10_86 (gX7_put hst fu s x9 a1 t0) rfl rfl (by decide) rfl rfl ⟨by decide, by decide, by decide, by decide, Nat.le_of_ble_eq_true rfl⟩ rfl (fun s10 => ?_)
    refine G_aload_n (x := a0) (pc := 60) dX10_pairUp_60 rfl ?_
    refine G_getR (j := 9) (pc := 61) dX10_pairUp_61 rfl z_CLX10 (by decide) z_wX10_38 (by decide) (fun x11 => ?_)
    refine G_iload_n (x := t0) (pc := 64) dX10_pairUp_64 rfl ?_
    refine G_iload_n (x := a1) (pc := 65) dX10_pairUp_65 rfl ?_
    refine G_callVN (as := [vI t0, vI a1]) (st := []) (c := 7) (bc2 := 0) (bs2 := 0) (pc := 66) dX10_pairUp_66 z_mX7_put z_vX7_put z_wX10_86 (gX7_put hst fu s10 x11 t0 a1) rfl rfl (by decide) rfl rfl ⟨by decide, by decide, by decide, by decide, Nat.le_of_ble_eq_true rfl⟩ rfl (fun s12 => ?_)
    refine G_aload_n (x := a0) (pc := 69) dX10_pairUp_69 rfl ?_
    refine G_dupR (pc := 70) dX10_pairUp_70 ?_
    refine G_getI (j := 17) (pc := 71) dX10_pairUp_71 rfl z_CLX10 (by decide) z_wX10_130 (by decide) (fun x13 => ?_)
    refine G_iconst (pc := 74) dX10_pairUp_74 ?_
    refine G_iadd (pc := 75) dX10_pairUp_75 (fun x14 => ?_)
    refine G_putI (j := 17) (pc := 76) dX10_pairUp_76 rfl z_CLX10 (by decide) z_wX10_130 rfl (by decide) (by decide) (fun s15 => ?_)
    refine G_fg (lv2 := [vR a0, vI a1, vU]) ⟨Or.inr rfl, Or.inr rfl, Or.inl rfl, trivial⟩ ?_
    exact gX10_pairUp_J79 hst fu s15 a0 a1 _ _ (fun w v1 => hr w v1) hk
def fX10_pairUp_L7 (fu : Nat) (a0 : Int) : Nat → z_M → Int → (z_M → z_O) → z_O
  | 0, _, _, _ => none
  | F + 1, s, a1, k => if z_ob a0 10 then z_let (s a0 16) (fun x2 => if (x2 : Int) ≤ a1 then (k s) else (if z_ob a0 10 then z_let (z_gr a0 9) (fun x3 => if z_ob x3 7 then z_bN (fX7_put fu s x3 a1 (-1)) (fun s4 => if z_ob a0 10 then z_let (z_gr a0 2) (fun x5 => if z_ob x5 7 then z_bI (fX7_get fu s4 x5 a1) (fun x7 s6 => if (x7 : Int) ≠ 5 then (fX10_pairUp_J45 fu s6 a0 a1 (-1) (fun w v1 => fX10_pairUp_L7 fu a0 F w v1 k) k) else (if z_ob a0 10 then z_bI (fX10_latestOpen fu s6 a0 a1) (fun x17 s16 => fX10_pairUp_J45 fu s16 a0 a1 x17 (fun w v1 => fX10_pairUp_L7 fu a0 F w v1 k) k) else none)) else none) else none) else none) else none)) else none
theorem gX10_pairUp_L7 {l : Launch} {K : z_K} (hst : l.stackTraces = false) (fu : Nat) (a0 : Int) (k : z_M → z_O) (hk : ∀ (s : z_M), G l K mX10_pairUp 2 43 0 0 85 [vU, vU, vU] [] s (k s)) : ∀ (F : Nat) (s : z_M) (a1 : Int), G l K mX10_pairUp 2 43 0 0 7 [vR a0, vI a1, vU] [] s (fX10_pairUp_L7 fu a0 F s a1 k) := by
  intro F
  induction F with
  | zero => exact fun s a1 h => absurd rfl h
  | succ F ih =>
    intro s a1
    rw [fX10_pairUp_L7]
    refine G_iload_n (x := a1) (pc := 7) dX10_pairUp_7 rfl ?_
    refine G_aload_n (x := a0) (pc := 8) dX10_pairUp_8 rfl ?_
    refine G_getI (j := 16) (pc := 9) dX10_pairUp_9 rfl z_CLX10 (by decide) z_wX10_69 (by decide) (fun x2 => ?_)
    refine G_icmp_ge (tgt := 85) (pc := 12) dX10_pairUp_12 ?_ ?_
    · refine G_fg (lv2 := [vU, vU, vU]) ⟨Or.inl rfl, Or.inl rfl, Or.inl rfl, trivial⟩ ?_
      exact hk s
    · refine G_aload_n (x := a0) (pc := 15) dX10_pairUp_15 rfl ?_
      refine G_getR (j := 9) (pc := 16) dX10_pairUp_16 rfl z_CLX10 (by decide) z_wX10_38 (by decide) (fun x3 => ?_)
      refine G_iload_n (x := a1) (pc := 19) dX10_pairUp_19 rfl ?_
      refine G_iconst (pc := 20) dX10_pairUp_20 ?_
      refine G_callVN (as := [vI a1, vI (-1)]) (st := []) (c := 7) (bc2 := 0) (bs2 := 0) (pc := 21) dX10_pairUp_21 z_mX7_put z_vX7_put z_wX10_86 (gX7_put hst fu s x3 a1 (-1)) rfl rfl (by decide) rfl rfl ⟨by decide, by decide, by decide, by decide, Nat.le_of_ble_eq_true rfl⟩ rfl (fun s4 => ?_)
      refine G_aload_n (x := a0) (pc := 24) dX10_pairUp_24 rfl ?_
      refine G_getR (j := 2) (pc := 25) dX10_pairUp_25 rfl z_CLX10 (by decide) z_wX10_14 (by decide) (fun x5 => ?_)
      refine G_iload_n (x := a1) (pc := 28) dX10_pairUp_28 rfl ?_
      refine G_callVI (as := [vI a1]) (st := []) (c := 7) (bc2 := 0) (bs2 := 0) (pc := 29) dX10_pairUp_29 z_mX7_get z_vX7_get z_wX10_109 (gX7_get hst fu s4 x5 a1) rfl rfl (by decide) rfl rfl ⟨by decide, by decide, by decide, by decide, Nat.le_of_ble_eq_true rfl⟩ rfl (fun x7 s6 => ?_)
      refine G_iconst (pc := 32) dX10_pairUp_32 ?_
      refine G_icmp_ne (tgt := 44) (pc := 33) dX10_pairUp_33 ?_ ?_
      · refine G_iconst (pc := 44) dX10_pairUp_44 ?_
        exact gX10_pairUp_J45 hst fu s6 a0 a1 (-1) _ _ (fun w v1 => ih w v1) hk
      · refine G_aload_n (x := a0) (pc := 36) dX10_pairUp_36 rfl ?_
        refine G_iload_n (x := a1) (pc := 37) dX10_pairUp_37 rfl ?_
        refine G_callVI (as := [vI a1]) (st := []) (c := 10) (bc2 := 0) (bs2 := 0) (pc := 38) dX10_pairUp_38 z_mX10_latestOpen z_vX10_latestOpen z_wX10_133 (gX10_latestOpen hst fu s6 a0 a1) rfl rfl (by decide) rfl rfl ⟨by decide, by decide, by decide, by decide, Nat.le_of_ble_eq_true rfl⟩ rfl (fun x17 s16 => ?_)
        refine G_goto (tgt := 45) (pc := 41) dX10_pairUp_41 ?_
        exact gX10_pairUp_J45 hst fu s16 a0 a1 x17 _ _ (fun w v1 => ih w v1) hk
def fX10_pairUp (fu : Nat) (s : z_M) (a0 : Int) : z_O := if z_ob a0 10 then z_let (z_up s a0 17 0) (fun s1 => fX10_pairUp_L7 fu a0 fu s1 0 (fun s18 => some (vN, s18))) else none
theorem gX10_pairUp {l : Launch} {K : z_K} (hst : l.stackTraces = false) (fu : Nat) (s : z_M) (a0 : Int) : z_D l K mX10_pairUp 2 43 0 0 [vR a0] s (fX10_pairUp fu s a0) := by
  refine z_D_of (lv := [vR a0, vU, vU]) hst z_mX10_pairUp rfl ?_ (Nat.le_of_ble_eq_true rfl) rfl
  unfold fX10_pairUp
  refine G_aload_n (x := a0) (pc := 0) dX10_pairUp_0 rfl ?_
  refine G_iconst (pc := 1) dX10_pairUp_1 ?_
  refine G_putI (j := 17) (pc := 2) dX10_pairUp_2 rfl z_CLX10 (by decide) z_wX10_130 rfl (by decide) (by decide) (fun s1 => ?_)
  refine G_iconst (pc := 5) dX10_pairUp_5 ?_
  refine G_istore_n (lv' := [vR a0, vI 0, vU]) (pc := 6) dX10_pairUp_6 rfl ?_
  refine gX10_pairUp_L7 hst fu a0 _ (fun s18 => ?_) fu s1 0
  exact G_vret (pc := 85) dX10_pairUp_85
def fX10_allowsEnd_J22 (fu : Nat) (s : z_M) : z_O := if z_bl 0 then some (vI 0, s) else none
theorem gX10_allowsEnd_J22 {l : Launch} {K : z_K} (hst : l.stackTraces = false) (fu : Nat) (s : z_M) : G l K mX10_allowsEnd 1 21 0 0 22 [vU, vU] [] s (fX10_allowsEnd_J22 fu s) := by
  unfold fX10_allowsEnd_J22
  refine G_iconst (pc := 22) dX10_allowsEnd_22 ?_
  exact G_zret (pc := 23) dX10_allowsEnd_23
def fX10_allowsEnd_J57 (fu : Nat) (s : z_M) (t0 : Int) : z_O := if z_bl t0 then some (vI t0, s) else none
theorem gX10_allowsEnd_J57 {l : Launch} {K : z_K} (hst : l.stackTraces = false) (fu : Nat) (s : z_M) (t0 : Int) : G l K mX10_allowsEnd 1 21 0 0 57 [vU, vU] [vI t0] s (fX10_allowsEnd_J57 fu s t0) := by
  unfold fX10_allowsEnd_J57
  exact G_zret (pc := 57) dX10_allowsEnd_57
def fX10_allowsEnd_J56 (fu : Nat) (s : z_M) : z_O := fX10_allowsEnd_J57 fu s 0
theorem gX10_allowsEnd_J56 {l : Launch} {K : z_K} (hst : l.stackTraces = false) (fu : Nat) (s : z_M) : G l K mX10_allowsEnd 1 21 0 0 56 [vU, vU] [] s (fX10_allowsEnd_J56 fu s) := by
  unfold fX10_allowsEnd_J56
  refine G_iconst (pc := 56) dX10_allowsEnd_56 ?_
  exact gX10_allowsEnd_J57 hst fu s 0
def fX10_allowsEnd (fu : Nat) (s : z_M) (a0 : Int) (a1 : Int) : z_O := if z_ob a0 10 then z_let (s a0 16) (fun x1 => z_let (z_w (x1 - 1)) (fun x2 => if (x2 : Int) ≤ a1 then (fX10_allowsEnd_J22 fu s) else (if z_ob a0 10 then z_let (z_gr a0 2) (fun x3 => if z_ob x3 7 then z_bI (fX7_get fu s x3 a1) (fun x5 s4 => if (x5 : Int) ≠ 4 then (if z_ob a0 10 then z_let (z_gr a0 2) (fun x6 => z_let (z_w (a1 + 1)) (fun x7 => if z_ob x6 7 then z_bI (fX7_get fu s4 x6 x7) (fun x9 s8 => if (x9 : Int) = 3 then (fX10_allowsEnd_J56 fu s8) else (if z_ob a0 10 then z_let (z_gr a0 2) (fun x10 => z_let (z_w (a1 + 1)) (fun x11 => if z_ob x10 7 then z_bI (fX7_get fu s8 x10 x11) (fun x13 s12 => if (x13 : Int) = 5 then (fX10_allowsEnd_J56 fu s12) else (fX10_allowsEnd_J57 fu s12 1)) else none)) else none)) else none)) else none) else (fX10_allowsEnd_J22 fu s4)) else none) else none))) else none
theorem gX10_allowsEnd {l : Launch} {K : z_K} (hst : l.stackTraces = false) (fu : Nat) (s : z_M) (a0 : Int) (a1 : Int) : z_D l K mX10_allowsEnd 1 21 0 0 [vR a0, vI a1] s (fX10_allowsEnd fu s a0 a1) := by
  refine z_D_of (lv := [vR a0, vI a1]) hst z_mX10_allowsEnd rfl ?_ (Nat.le_of_ble_eq_true rfl) rfl
  unfold fX10_allowsEnd
  refine G_iload_n (x := a1) (pc := 0) dX10_allowsEnd_0 rfl ?_
  refine G_aload_n (x := a0) (pc := 1) dX10_allowsEnd_1 rfl ?_
  refine G_getI (j := 16) (pc := 2) dX10_allowsEnd_2 rfl z_CLX10 (by decide) z_wX10_69 (by decide) (fun x1 => ?_)
  refine G_iconst (pc := 5) dX10_allowsEnd_5 ?_
  refine G_isub (pc := 6) dX10_allowsEnd_6 (fun x2 => ?_)
  refine G_icmp_ge (tgt := 22) (pc := 7) dX10_allowsEnd_7 ?_ ?_
  · refine G_fg (lv2 := [vU, vU]) ⟨Or.inl rfl, Or.inl rfl, trivial⟩ ?_
    exact gX10_allowsEnd_J22 hst fu s
  · refine G_aload_n (x := a0) (pc := 10) dX10_allowsEnd_10 rfl ?_
    refine G_getR (j := 2) (pc := 11) dX10_allowsEnd_11 rfl z_CLX10 (by decide) z_wX10_14 (by decide) (fun x3 => ?_)
    refine G_iload_n (x := a1) (pc := 14) dX10_allowsEnd_14 rfl ?_
    refine G_callVI (as := [vI a1]) (st := []) (c := 7) (bc2 := 0) (bs2 := 0) (pc := 15) dX10_allowsEnd_15 z_mX7_get z_vX7_get z_wX10_109 (gX7_get hst fu s x3 a1) rfl rfl (by decide) rfl rfl ⟨by decide, by decide, by decide, by decide, Nat.le_of_ble_eq_true rfl⟩ rfl (fun x5 s4 => ?_)
    refine G_iconst (pc := 18) dX10_allowsEnd_18 ?_
    refine G_icmp_ne (tgt := 24) (pc := 19) dX10_allowsEnd_19 ?_ ?_
    · refine G_aload_n (x := a0) (pc := 24) dX10_allowsEnd_24 rfl ?_
      refine G_getR (j := 2) (pc := 25) dX10_allowsEnd_25 rfl z_CLX10 (by decide) z_wX10_14 (by decide) (fun x6 => ?_)
      refine G_iload_n (x := a1) (pc := 28) dX10_allowsEnd_28 rfl ?_
      refine G_iconst (pc := 29) dX10_allowsEnd_29 ?_
      refine G_iadd (pc := 30) dX10_allowsEnd_30 (fun x7 => ?_)
      refine G_callVI (as := [vI x7]) (st := []) (c := 7) (bc2 := 0) (bs2 := 0) (pc := 31) dX10_allowsEnd_31 z_mX7_get z_vX7_get z_wX10_109 (gX7_get hst fu s4 x6 x7) rfl rfl (by decide) rfl rfl ⟨by decide, by decide, by decide, by decide, Nat.le_of_ble_eq_true rfl⟩ rfl (fun x9 s8 => ?_)
      refine G_iconst (pc := 34) dX10_allowsEnd_34 ?_
      refine G_icmp_eq (tgt := 56) (pc := 35) dX10_allowsEnd_35 ?_ ?_
      · refine G_fg (lv2 := [vU, vU]) ⟨Or.inl rfl, Or.inl rfl, trivial⟩ ?_
        exact gX10_allowsEnd_J56 hst fu s8
      · refine G_aload_n (x := a0) (pc := 38) dX10_allowsEnd_38 rfl ?_
        refine G_getR (j := 2) (pc := 39) dX10_allowsEnd_39 rfl z_CLX10 (by decide) z_wX10_14 (by decide) (fun x10 => ?_)
        refine G_iload_n (x := a1) (pc := 42) dX10_allowsEnd_42 rfl ?_
        refine G_iconst (pc := 43) dX10_allowsEnd_43 ?_
        refine G_iadd (pc := 44) dX10_allowsEnd_44 (fun x11 => ?_)
        refine G_callVI (as := [vI x11]) (st := []) (c := 7) (bc2 := 0) (bs2 := 0) (pc := 45) dX10_allowsEnd_45 z_mX7_get z_vX7_get z_wX10_109 (gX7_get hst fu s8 x10 x11) rfl rfl (by decide) rfl rfl ⟨by decide, by decide, by decide, by decide, Nat.le_of_ble_eq_true rfl⟩ rfl (fun x13 s12 => ?_)
        refine G_iconst (pc := 48) dX10_allowsEnd_48 ?_
        refine G_icmp_eq (tgt := 56) (pc := 49) dX10_allowsEnd_49 ?_ ?_
        · refine G_fg (lv2 := [vU, vU]) ⟨Or.inl rfl, Or.inl rfl, trivial⟩ ?_
          exact gX10_allowsEnd_J56 hst fu s12
        · refine G_iconst (pc := 52) dX10_allowsEnd_52 ?_
          refine G_goto (tgt := 57) (pc := 53) dX10_allowsEnd_53 ?_
          refine G_fg (lv2 := [vU, vU]) ⟨Or.inl rfl, Or.inl rfl, trivial⟩ ?_
          exact gX10_allowsEnd_J57 hst fu s12 1
    · refine G_fg (lv2 := [vU, vU]) ⟨Or.inl rfl, Or.inl rfl, trivial⟩ ?_
      exact gX10_allowsEnd_J22 hst fu s4
def fX10_tie_J108 (fu : Nat) (s : z_M) (a0 : Int) (a1 : Int) (r : z_M → Int → z_O) (k : z_M → z_O) : z_O := z_let (z_w (a1 + 1)) (fun x6 => r s x6)
theorem gX10_tie_J108 {l : Launch} {K : z_K} (hst : l.stackTraces = false) (fu : Nat) (s : z_M) (a0 : Int) (a1 : Int) (r : z_M → Int → z_O) (k : z_M → z_O) (hr : ∀ (s : z_M) (a1 : Int), G l K mX10_tie 1 22 0 0 7 [vR a0, vI a1, vU, vU] [] s (r s a1)) (hk : ∀ (s : z_M), G l K mX10_tie 1 22 0 0 114 [vU, vU, vU, vU] [] s (k s)) : G l K mX10_tie 1 22 0 0 108 [vR a0, vI a1, vU, vU] [] s (fX10_tie_J108 fu s a0 a1 r k) := by
  unfold fX10_tie_J108
  refine G_iinc (x := a1) (g := fun x6 => [vR a0, vI x6, vU, vU]) (pc := 108) dX10_tie_108 rfl (fun _ => rfl) (fun x6 => ?_)
  refine G_goto (tgt := 7) (pc := 111) dX10_tie_111 ?_
  exact hr s x6
def fX10_tie_L88 (fu : Nat) (a0 : Int) (a1 : Int) (a2 : Int) : Nat → z_M → Int → (z_M → z_O) → z_O
  | 0, _, _, _ => none
  | F + 1, s, a3, k => if (a2 : Int) ≤ a3 then (k s) else (if z_ob a0 10 then z_let (z_gr a0 10) (fun x21 => if z_ob x21 7 then z_bN (fX7_put fu s x21 a3 0) (fun s22 => z_let (z_w (a3 + 1)) (fun x23 => fX10_tie_L88 fu a0 a1 a2 F s22 x23 k)) else none) else none)
theorem gX10_tie_L88 {l : Launch} {K : z_K} (hst : l.stackTraces = false) (fu : Nat) (a0 : Int) (a1 : Int) (a2 : Int) (k : z_M → z_O) (hk : ∀ (s : z_M), G l K mX10_tie 1 22 0 0 108 [vR a0, vI a1, vU, vU] [] s (k s)) : ∀ (F : Nat) (s : z_M) (a3 : Int), G l K mX10_tie 1 22 0 0 88 [vR a0, vI a1, vI a2, vI a3] [] s (fX10_tie_L88 fu a0 a1 a2 F s a3 k) := by
  intro F
  induction F with
  | zero => exact fun s a3 h => absurd rfl h
  | succ F ih =>
    intro s a3
    rw [fX10_tie_L88]
    refine G_iload_n (x := a3) (pc := 88) dX10_tie_88 rfl ?_
    refine G_iload_n (x := a2) (pc := 89) dX10_tie_89 rfl ?_
    refine G_icmp_ge (tgt := 108) (pc := 90) dX10_tie_90 ?_ ?_
    · refine G_fg (lv2 := [vR a0, vI a1, vU, vU]) ⟨Or.inr rfl, Or.inr rfl, Or.inl rfl, Or.inl rfl, trivial⟩ ?_
      exact hk s
    · refine G_aload_n (x := a0) (pc := 93) dX10_tie_93 rfl ?_
      refine G_getR (j := 10) (pc := 94) dX10_tie_94 rfl z_CLX10 (by decide) z_wX10_41 (by decide) (fun x21 => ?_)
      refine G_iload_n (x := a3) (pc := 97) dX10_tie_97 rfl ?_
      refine G_iconst (pc := 98) dX10_tie_98 ?_
      refine G_callVN (as := [vI a3, vI 0]) (st := []) (c := 7) (bc2 := 0) (bs2 := 0) (pc := 99) dX10_tie_99 z_mX7_put z_vX7_put z_wX10_86 (gX7_put hst fu s x21 a3 0) rfl rfl (by decide) rfl rfl ⟨by decide, by decide, by decide, by decide, Nat.le_of_ble_eq_true rfl⟩ rfl (fun s22 => ?_)
      refine G_iinc (x := a3) (g := fun x23 => [vR a0, vI a1, vI a2, vI x23]) (pc := 102) dX10_tie_102 rfl (fun _ => rfl) (fun x23 => ?_)
      refine G_goto (tgt := 88) (pc := 105) dX10_tie_105 ?_
      exact ih s22 x23
def fX10_tie_J39 (fu : Nat) (s : z_M) (a0 : Int) (a1 : Int) (t0 : Int) (r : z_M → Int → z_O) (k : z_M → z_O) : z_O := if (t0 : Int) = (-1) then (fX10_tie_J108 fu s a0 a1 (fun w v1 => r w v1) k) else (if z_ob a0 10 then z_let (z_gr a0 11) (fun x7 => z_let (z_w (t0 + 1)) (fun x8 => if z_ob x7 7 then z_bI (fX7_get fu s x7 x8) (fun x10 s9 => if z_ob a0 10 then z_let (z_gr a0 11) (fun x11 => if z_ob x11 7 then z_bI (fX7_get fu s9 x11 a1) (fun x13 s12 => z_let (z_w (x10 - x13)) (fun x14 => if z_ob a0 10 then z_let (z_gr a0 1) (fun x15 => if z_ob x15 7 then z_bI (fX7_get fu s12 x15 7) (fun x17 s16 => if (x17 : Int) < x14 then (fX10_tie_J108 fu s16 a0 a1 (fun w v1 => r w v1) k) else (if z_ob a0 10 then z_let (s16 a0 18) (fun x18 => z_let (z_w (x18 + 1)) (fun x19 => if z_ob a0 10 then z_let (z_up s16 a0 18 x19) (fun s20 => fX10_tie_L88 fu a0 a1 t0 fu s20 a1 (fun s24 => fX10_tie_J108 fu s24 a0 a1 (fun w v1 => r w v1) k)) else none)) else none)) else none) else none)) else none) else none) else none)) else none)
theorem gX10_tie_J39 {l : Launch} {K : z_K} (hst : l.stackTraces = false) (fu : Nat) (s : z_M) (a0 : Int) (a1 : Int) (t0 : Int) (r : z_M → Int → z_O) (k : z_M → z_O) (hr : ∀ (s : z_M) (a1 : Int), G l K mX10_tie 1 22 0 0 7 [vR a0, vI a1, vU, vU] [] s (r s a1)) (hk : ∀ (s : z_M), G l K mX10_tie 1 22 0 0 114 [vU, vU, vU, vU] [] s (k s)) : G l K mX10_tie 1 22 0 0 39 [vR a0, vI a1, vU, vU] [vI t0] s (fX10_tie_J39 fu s a0 a1 t0 r k) := by
  unfold fX10_tie_J39
  refine G_istore_n (lv' := [vR a0, vI a1, vI t0, vU]) (pc := 39) dX10_tie_39 rfl ?_
  refine G_iload_n (x := t0) (pc := 40) dX10_tie_40 rfl ?_
  refine G_iconst (pc := 41) dX10_tie_41 ?_
  refine G_icmp_eq (tgt := 108) (pc := 42) dX10_tie_42 ?_ ?_
  · refine G_fg (lv2 := [vR a0, vI a1, vU, vU]) ⟨Or.inr rfl, Or.inr rfl, Or.inl rfl, Or.inl rfl, trivial⟩ ?_
    exact gX10_tie_J108 hst fu s a0 a1 _ _ (fun w v1 => hr w v1) hk
  · refine G_aload_n (x := a0) (pc := 45) dX10_tie_45 rfl ?_
    refine G_getR (j := 11) (pc := 46) dX10_tie_46 rfl z_CLX10 (by decide) z_wX10_44 (by decide) (fun x7 => ?_)
    refine G_iload_n (x := t0) (pc := 49) dX10_tie_49 rfl ?_
    refine G_iconst (pc := 50) dX10_tie_50 ?_
    refine G_iadd (pc := 51) dX10_tie_51 (fun x8 => ?_)
    refine G_callVI (as := [vI x8]) (st := []) (c := 7) (bc2 := 0) (bs2 := 0) (pc := 52) dX10_tie_52 z_mX7_get z_vX7_get z_wX10_109 (gX7_get hst fu s x7 x8) rfl rfl (by decide) rfl rfl ⟨by decide, by decide, by decide, by decide, Nat.le_of_ble_eq_true rfl⟩ rfl (fun x10 s9 => ?_)
    refine G_aload_n (x := a0) (pc := 55) dX10_tie_55 rfl ?_
    refine G_getR (j := 11) (pc := 56) dX10_tie_56 rfl z_CLX10 (by decide) z_wX10_44 (by decide) (fun x11 => ?_)
    refine G_iload_n (x := a1) (pc := 59) dX10_tie_59 rfl ?_
    refine G_callVI (as := [vI a1]) (st := [vI x10]) (c := 7) (bc2 := 0) (bs2 := 0) (pc := 60) dX10_tie_60 z_mX7_get z_vX7_get z_wX10_109 (gX7_get hst fu s9 x11 a1) rfl rfl (by decide) rfl rfl ⟨by decide, by decide, by decide, by decide, Nat.le_of_ble_eq_true rfl⟩ rfl (fun x13 s12 => ?_)
    refine G_isub (pc := 63) dX10_tie_63 (fun x14 => ?_)
    refine G_aload_n (x := a0) (pc := 64) dX10_tie_64 rfl ?_
    refine G_getR (j := 1) (pc := 65) dX10_tie_65 rfl z_CLX10 (by decide) z_wX10_63 (by decide) (fun x15 => ?_)
    refine G_bipush (pc := 68) dX10_tie_68 ?_
    refine G_callVI (as := [vI 7]) (st := [vI x14]) (c := 7) (bc2 := 0) (bs2 := 0) (pc := 70) dX10_tie_70 z_mX7_get z_vX7_get z_wX10_109 (gX7_get hst fu s12 x15 7) rfl rfl (by decide) rfl rfl ⟨by decide, by decide, by decide, by decide, Nat.le_of_ble_eq_true rfl⟩ rfl (fun x17 s16 => ?_)
    refine G_icmp_gt (tgt := 108) (pc := 73) dX10_tie_73 ?_ ?_
    · refine G_fg (lv2 := [vR a0, vI a1, vU, vU]) ⟨Or.inr rfl, Or.inr rfl, Or.inl rfl, Or.inl rfl, trivial⟩ ?_
      exact gX10_tie_J108 hst fu s16 a0 a1 _ _ (fun w v1 => hr w v1) hk
    · refine G_aload_n (x := a0) (pc := 76) dX10_tie_76 rfl ?_
      refine G_dupR (pc := 77) dX10_tie_77 ?_
      refine G_getI (j := 18) (pc := 78) dX10_tie_78 rfl z_CLX10 (by decide) z_wX10_136 (by decide) (fun x18 => ?_)
      refine G_iconst (pc := 81) dX10_tie_81 ?_
      refine G_iadd (pc := 82) dX10_tie_82 (fun x19 => ?_)
      refine G_putI (j := 18) (pc := 83) dX10_tie_83 rfl z_CLX10 (by decide) z_wX10_136 rfl (by decide) (by decide) (fun s20 => ?_)
      refine G_iload_n (x := a1) (pc := 86) dX10_tie_86 rfl ?_
      refine G_istore_n (lv' := [vR a0, vI a1, vI t0, vI a1]) (pc := 87) dX10_tie_87 rfl ?_
      refine gX10_tie_L88 hst fu a0 a1 t0 _ (fun s24 => ?_) fu s20 a1
      exact gX10_tie_J108 hst fu s24 a0 a1 _ _ (fun w v1 => hr w v1) hk
def fX10_tie_L7 (fu : Nat) (a0 : Int) : Nat → z_M → Int → (z_M → z_O) → z_O
  | 0, _, _, _ => none
  | F + 1, s, a1, k => if z_ob a0 10 then z_let (s a0 16) (fun x2 => if (x2 : Int) ≤ a1 then (k s) else (if z_ob a0 10 then z_let (z_gr a0 2) (fun x3 => if z_ob x3 7 then z_bI (fX7_get fu s x3 a1) (fun x5 s4 => if (x5 : Int) ≠ 4 then (fX10_tie_J39 fu s4 a0 a1 (-1) (fun w v1 => fX10_tie_L7 fu a0 F w v1 k) k) else (if z_ob a0 10 then z_let (z_gr a0 9) (fun x25 => if z_ob x25 7 then z_bI (fX7_get fu s4 x25 a1) (fun x27 s26 => fX10_tie_J39 fu s26 a0 a1 x27 (fun w v1 => fX10_tie_L7 fu a0 F w v1 k) k) else none) else none)) else none) else none)) else none
theorem gX10_tie_L7 {l : Launch} {K : z_K} (hst : l.stackTraces = false) (fu : Nat) (a0 : Int) (k : z_M → z_O) (hk : ∀ (s : z_M), G l K mX10_tie 1 22 0 0 114 [vU, vU, vU, vU] [] s (k s)) : ∀ (F : Nat) (s : z_M) (a1 : Int), G l K mX10_tie 1 22 0 0 7 [vR a0, vI a1, vU, vU] [] s (fX10_tie_L7 fu a0 F s a1 k) := by
  intro F
  induction F with
  | zero => exact fun s a1 h => absurd rfl h
  | succ F ih =>
    intro s a1
    rw [fX10_tie_L7]
    refine G_iload_n (x := a1) (pc := 7) dX10_tie_7 rfl ?_
    refine G_aload_n (x := a0) (pc := 8) dX10_tie_8 rfl ?_
    refine G_getI (j := 16) (pc := 9) dX10_tie_9 rfl z_CLX10 (by decide) z_wX10_69 (by decide) (fun x2 => ?_)
    refine G_icmp_ge (tgt := 114) (pc := 12) dX10_tie_12 ?_ ?_
    · refine G_fg (lv2 := [vU, vU, vU, vU]) ⟨Or.inl rfl, Or.inl rfl, Or.inl rfl, Or.inl rfl, trivial⟩ ?_
      exact hk s
    · refine G_aload_n (x := a0) (pc := 15) dX10_tie_15 rfl ?_
      refine G_getR (j := 2) (pc := 16) dX10_tie_16 rfl z_CLX10 (by decide) z_wX10_14 (by decide) (fun x3 => ?_)
      refine G_iload_n (x := a1) (pc := 19) dX10_tie_19 rfl ?_
      refine G_callVI (as := [vI a1]) (st := []) (c := 7) (bc2 := 0) (bs2 := 0) (pc := 20) dX10_tie_20 z_mX7_get z_vX7_get z_wX10_109 (gX7_get hst fu s x3 a1) rfl rfl (by decide) rfl rfl ⟨by decide, by decide, by decide, by decide, Nat.le_of_ble_eq_true rfl⟩ rfl (fun x5 s4 => ?_)
      refine G_iconst (pc := 23) dX10_tie_23 ?_
      refine G_icmp_ne (tgt := 38) (pc := 24) dX10_tie_24 ?_ ?_
      · refine G_iconst (pc := 38) dX10_tie_38 ?_
        exact gX10_tie_J39 hst fu s4 a0 a1 (-1) _ _ (fun w v1 => ih w v1) hk
      · refine G_aload_n (x := a0) (pc := 27) dX10_tie_27 rfl ?_
        refine G_getR (j := 9) (pc := 28) dX10_tie_28 rfl z_CLX10 (by decide) z_wX10_38 (by decide) (fun x25 => ?_)
        refine G_iload_n (x := a1) (pc := 31) dX10_tie_31 rfl ?_
        refine G_callVI (as := [vI a1]) (st := []) (c := 7) (bc2 := 0) (bs2 := 0) (pc := 32) dX10_tie_32 z_mX7_get z_vX7_get z_wX10_109 (gX7_get hst fu s4 x25 a1) rfl rfl (by decide) rfl rfl ⟨by decide, by decide, by decide, by decide, Nat.le_of_ble_eq_true rfl⟩ rfl (fun x27 s26 => ?_)
        refine G_goto (tgt := 39) (pc := 35) dX10_tie_35 ?_
        exact gX10_tie_J39 hst fu s26 a0 a1 x27 _ _ (fun w v1 => ih w v1) hk
def fX10_tie (fu : Nat) (s : z_M) (a0 : Int) : z_O := if z_ob a0 10 then z_let (z_up s a0 18 0) (fun s1 => fX10_tie_L7 fu a0 fu s1 0 (fun s28 => some (vN, s28))) else none
theorem gX10_tie {l : Launch} {K : z_K} (hst : l.stackTraces = false) (fu : Nat) (s : z_M) (a0 : Int) : z_D l K mX10_tie 1 22 0 0 [vR a0] s (fX10_tie fu s a0) := by
  refine z_D_of (lv := [vR a0, vU, vU, vU]) hst z_mX10_tie rfl ?_ (Nat.le_of_ble_eq_true rfl) rfl
  unfold fX10_tie
  refine G_aload_n (x := a0) (pc := 0) dX10_tie_0 rfl ?_
  refine G_iconst (pc := 1) dX10_tie_1 ?_
  refine G_putI (j := 18) (pc := 2) dX10_tie_2 rfl z_CLX10 (by decide) z_wX10_136 rfl (by decide) (by decide) (fun s1 => ?_)
  refine G_iconst (pc := 5) dX10_tie_5 ?_
  refine G_istore_n (lv' := [vR a0, vI 0, vU, vU]) (pc := 6) dX10_tie_6 rfl ?_
  refine gX10_tie_L7 hst fu a0 _ (fun s28 => ?_) fu s1 0
  exact G_vret (pc := 114) dX10_tie_114
def fX10_build_L6 (fu : Nat) (a0 : Int) : Nat → z_M → Int → (z_M → z_O) → z_O
  | 0, _, _, _ => none
  | F + 1, s, a1, k => if z_ob a0 10 then z_let (s a0 16) (fun x2 => if (x2 : Int) ≤ a1 then (k s) else (if z_ob a0 10 then z_bN (fX10_measureUnit fu s a0 a1) (fun s3 => z_let (z_w (a1 + 1)) (fun x4 => fX10_build_L6 fu a0 F s3 x4 k)) else none)) else none
theorem gX10_build_L6 {l : Launch} {K : z_K} (hst : l.stackTraces = false) (fu : Nat) (a0 : Int) (k : z_M → z_O) (hk : ∀ (s : z_M), G l K mX10_build 4 86 0 0 25 [vR a0, vU] [] s (k s)) : ∀ (F : Nat) (s : z_M) (a1 : Int), G l K mX10_build 4 86 0 0 6 [vR a0, vI a1] [] s (fX10_build_L6 fu a0 F s a1 k) := by
  intro F
  induction F with
  | zero => exact fun s a1 h => absurd rfl h
  | succ F ih =>
    intro s a1
    rw [fX10_build_L6]
    refine G_iload_n (x := a1) (pc := 6) dX10_build_6 rfl ?_
    refine G_aload_n (x := a0) (pc := 7) dX10_build_7 rfl ?_
    refine G_getI (j := 16) (pc := 8) dX10_build_8 rfl z_CLX10 (by decide) z_wX10_69 (by decide) (fun x2 => ?_)
    refine G_icmp_ge (tgt := 25) (pc := 11) dX10_build_11 ?_ ?_
    · refine G_fg (lv2 := [vR a0, vU]) ⟨Or.inr rfl, Or.inl rfl, trivial⟩ ?_
      exact hk s
    · refine G_aload_n (x := a0) (pc := 14) dX10_build_14 rfl ?_
      refine G_iload_n (x := a1) (pc := 15) dX10_build_15 rfl ?_
      refine G_callVN (as := [vI a1]) (st := []) (c := 10) (bc2 := 0) (bs2 := 0) (pc := 16) dX10_build_16 z_mX10_measureUnit z_vX10_measureUnit z_wX10_73 (gX10_measureUnit hst fu s a0 a1) rfl rfl (by decide) rfl rfl ⟨by decide, by decide, by decide, by decide, Nat.le_of_ble_eq_true rfl⟩ rfl (fun s3 => ?_)
      refine G_iinc (x := a1) (g := fun x4 => [vR a0, vI x4]) (pc := 19) dX10_build_19 rfl (fun _ => rfl) (fun x4 => ?_)
      refine G_goto (tgt := 6) (pc := 22) dX10_build_22 ?_
      exact ih s3 x4
def fX10_build_J61 (fu : Nat) (s : z_M) (a0 : Int) (a1 : Int) (t0 : Int) (t1 : Int) (t2 : Int) (r : z_M → Int → z_O) (k : z_M → z_O) : z_O := if z_ob t0 7 then z_bN (fX7_put fu s t0 t1 t2) (fun s12 => z_let (z_w (a1 + 1)) (fun x13 => r s12 x13)) else none
theorem gX10_build_J61 {l : Launch} {K : z_K} (hst : l.stackTraces = false) (fu : Nat) (s : z_M) (a0 : Int) (a1 : Int) (t0 : Int) (t1 : Int) (t2 : Int) (r : z_M → Int → z_O) (k : z_M → z_O) (hr : ∀ (s : z_M) (a1 : Int), G l K mX10_build 4 86 0 0 35 [vR a0, vI a1] [] s (r s a1)) (hk : ∀ (s : z_M), G l K mX10_build 4 86 0 0 70 [vR a0, vU] [] s (k s)) : G l K mX10_build 4 86 0 0 61 [vR a0, vI a1] [vI t2, vI t1, vR t0] s (fX10_build_J61 fu s a0 a1 t0 t1 t2 r k) := by
  unfold fX10_build_J61
  refine G_callVN (as := [vI t1, vI t2]) (st := []) (c := 7) (bc2 := 0) (bs2 := 0) (pc := 61) dX10_build_61 z_mX7_put z_vX7_put z_wX10_86 (gX7_put hst fu s t0 t1 t2) rfl rfl (by decide) rfl rfl ⟨by decide, by decide, by decide, by decide, Nat.le_of_ble_eq_true rfl⟩ rfl (fun s12 => ?_)
  refine G_iinc (x := a1) (g := fun x13 => [vR a0, vI x13]) (pc := 64) dX10_build_64 rfl (fun _ => rfl) (fun x13 => ?_)
  refine G_goto (tgt := 35) (pc := 67) dX10_build_67 ?_
  exact hr s12 x13
def fX10_build_L35 (fu : Nat) (a0 : Int) : Nat → z_M → Int → (z_M → z_O) → z_O
  | 0, _, _, _ => none
  | F + 1, s, a1, k => if z_ob a0 10 then z_let (s a0 16) (fun x8 => if (x8 : Int) ≤ a1 then (k s) else (if z_ob a0 10 then z_let (z_gr a0 10) (fun x9 => if z_ob a0 10 then z_bI (fX10_allowsEnd fu s a0 a1) (fun x11 s10 => if (x11 : Int) = 0 then (fX10_build_J61 fu s10 a0 a1 x9 a1 0 (fun w v1 => fX10_build_L35 fu a0 F w v1 k) k) else (fX10_build_J61 fu s10 a0 a1 x9 a1 1 (fun w v1 => fX10_build_L35 fu a0 F w v1 k) k)) else none) else none)) else none
theorem gX10_build_L35 {l : Launch} {K : z_K} (hst : l.stackTraces = false) (fu : Nat) (a0 : Int) (k : z_M → z_O) (hk : ∀ (s : z_M), G l K mX10_build 4 86 0 0 70 [vR a0, vU] [] s (k s)) : ∀ (F : Nat) (s : z_M) (a1 : Int), G l K mX10_build 4 86 0 0 35 [vR a0, vI a1] [] s (fX10_build_L35 fu a0 F s a1 k) := by
  intro F
  induction F with
  | zero => exact fun s a1 h => absurd rfl h
  | succ F ih =>
    intro s a1
    rw [fX10_build_L35]
    refine G_iload_n (x := a1) (pc := 35) dX10_build_35 rfl ?_
    refine G_aload_n (x := a0) (pc := 36) dX10_build_36 rfl ?_
    refine G_getI (j := 16) (pc := 37) dX10_build_37 rfl z_CLX10 (by decide) z_wX10_69 (by decide) (fun x8 => ?_)
    refine G_icmp_ge (tgt := 70) (pc := 40) dX10_build_40 ?_ ?_
    · refine G_fg (lv2 := [vR a0, vU]) ⟨Or.inr rfl, Or.inl rfl, trivial⟩ ?_
      exact hk s
    · refine G_aload_n (x := a0) (pc := 43) dX10_build_43 rfl ?_
      refine G_getR (j := 10) (pc := 44) dX10_build_44 rfl z_CLX10 (by decide) z_wX10_41 (by decide) (fun x9 => ?_)
      refine G_iload_n (x := a1) (pc := 47) dX10_build_47 rfl ?_
      refine G_aload_n (x := a0) (pc := 48) dX10_build_48 rfl ?_
      refine G_iload_n (x := a1) (pc := 49) dX10_build_49 rfl ?_
      refine G_callVI (as := [vI a1]) (st := [vI a1, vR x9]) (c := 10) (bc2 := 0) (bs2 := 0) (pc := 50) dX10_build_50 z_mX10_allowsEnd z_vX10_allowsEnd z_wX10_82 (gX10_allowsEnd hst fu s a0 a1) rfl rfl (by decide) rfl rfl ⟨by decide, by decide, by decide, by decide, Nat.le_of_ble_eq_true rfl⟩ rfl (fun x11 s10 => ?_)
      refine G_if_eq (tgt := 60) (pc := 53) dX10_build_53 ?_ ?_
      · refine G_iconst (pc := 60) dX10_build_60 ?_
        exact gX10_build_J61 hst fu s10 a0 a1 x9 a1 0 _ _ (fun w v1 => ih w v1) hk
      · refine G_iconst (pc := 56) dX10_build_56 ?_
        refine G_goto (tgt := 61) (pc := 57) dX10_build_57 ?_
        exact gX10_build_J61 hst fu s10 a0 a1 x9 a1 1 _ _ (fun w v1 => ih w v1) hk
def fX10_build (fu : Nat) (s : z_M) (a0 : Int) : z_O := if z_ob a0 10 then z_bN (fX10_split fu s a0) (fun s1 => fX10_build_L6 fu a0 fu s1 0 (fun s5 => if z_ob a0 10 then z_bN (fX10_addUp fu s5 a0) (fun s6 => if z_ob a0 10 then z_bN (fX10_pairUp fu s6 a0) (fun s7 => fX10_build_L35 fu a0 fu s7 0 (fun s14 => if z_ob a0 10 then z_bN (fX10_tie fu s14 a0) (fun s15 => some (vN, s15)) else none)) else none) else none)) else none
theorem gX10_build {l : Launch} {K : z_K} (hst : l.stackTraces = false) (fu : Nat) (s : z_M) (a0 : Int) : z_D l K mX10_build 4 86 0 0 [vR a0] s (fX10_build fu s a0) := by
  refine z_D_of (lv := [vR a0, vU]) hst z_mX10_build rfl ?_ (Nat.le_of_ble_eq_true rfl) rfl
  unfold fX10_build
  refine G_aload_n (x := a0) (pc := 0) dX10_build_0 rfl ?_
  refine G_callVN (as := []) (st := []) (c := 10) (bc2 := 0) (bs2 := 0) (pc := 1) dX10_build_1 z_mX10_split z_vX10_split z_wX10_66 (gX10_split hst fu s a0) rfl rfl (by decide) rfl rfl ⟨by decide, by decide, by decide, by decide, Nat.le_of_ble_eq_true rfl⟩ rfl (fun s1 => ?_)
  refine G_iconst (pc := 4) dX10_build_4 ?_
  refine G_istore_n (lv' := [vR a0, vI 0]) (pc := 5) dX10_build_5 rfl ?_
  refine gX10_build_L6 hst fu a0 _ (fun s5 => ?_) fu s1 0
  refine G_aload_n (x := a0) (pc := 25) dX10_build_25 rfl ?_
  refine G_callVN (as := []) (st := []) (c := 10) (bc2 := 0) (bs2 := 0) (pc := 26) dX10_build_26 z_mX10_addUp z_vX10_addUp z_wX10_76 (gX10_addUp hst fu s5 a0) rfl rfl (by decide) rfl rfl ⟨by decide, by decide, by decide, by decide, Nat.le_of_ble_eq_true rfl⟩ rfl (fun s6 => ?_)
  refine G_aload_n (x := a0) (pc := 29) dX10_build_29 rfl ?_
  refine G_callVN (as := []) (st := []) (c := 10) (bc2 := 0) (bs2 := 0) (pc := 30) dX10_build_30 z_mX10_pairUp z_vX10_pairUp z_wX10_79 (gX10_pairUp hst fu s6 a0) rfl rfl (by decide) rfl rfl ⟨by decide, by decide, by decide, by decide, Nat.le_of_ble_eq_true rfl⟩ rfl (fun s7 => ?_)
  refine G_iconst (pc := 33) dX10_build_33 ?_
  refine G_istore_n (lv' := [vR a0, vI 0]) (pc := 34) dX10_build_34 rfl ?_
  refine gX10_build_L35 hst fu a0 _ (fun s14 => ?_) fu s7 0
  refine G_aload_n (x := a0) (pc := 70) dX10_build_70 rfl ?_
  refine G_callVN (as := []) (st := []) (c := 10) (bc2 := 0) (bs2 := 0) (pc := 71) dX10_build_71 z_mX10_tie z_vX10_tie z_wX10_90 (gX10_tie hst fu s14 a0) rfl rfl (by decide) rfl rfl ⟨by decide, by decide, by decide, by decide, Nat.le_of_ble_eq_true rfl⟩ rfl (fun s15 => ?_)
  exact G_vret (pc := 74) dX10_build_74
def fX5_slotOf (fu : Nat) (s : z_M) (a0 : Int) (a1 : Int) : z_O := z_let (z_w (a1 + 1)) (fun x1 => z_let (z_w (a1 * x1)) (fun x2 => if 2 ≠ 0 then z_let (z_w (Int.tdiv x2 2)) (fun x3 => z_let (z_w (x3 + a0)) (fun x4 => some (vI x4, s))) else none))
theorem gX5_slotOf {l : Launch} {K : z_K} (hst : l.stackTraces = false) (fu : Nat) (s : z_M) (a0 : Int) (a1 : Int) : z_D l K mX5_slotOf 0 0 0 0 [vI a0, vI a1] s (fX5_slotOf fu s a0 a1) := by
  refine z_D_of (lv := [vI a0, vI a1]) hst z_mX5_slotOf rfl ?_ (Nat.le_of_ble_eq_true rfl) rfl
  unfold fX5_slotOf
  refine G_iload_n (x := a1) (pc := 0) dX5_slotOf_0 rfl ?_
  refine G_iload_n (x := a1) (pc := 1) dX5_slotOf_1 rfl ?_
  refine G_iconst (pc := 2) dX5_slotOf_2 ?_
  refine G_iadd (pc := 3) dX5_slotOf_3 (fun x1 => ?_)
  refine G_imul (pc := 4) dX5_slotOf_4 (fun x2 => ?_)
  refine G_iconst (pc := 5) dX5_slotOf_5 ?_
  refine G_idiv (pc := 6) dX5_slotOf_6 (fun x3 => ?_)
  refine G_iload_n (x := a0) (pc := 7) dX5_slotOf_7 rfl ?_
  refine G_iadd (pc := 8) dX5_slotOf_8 (fun x4 => ?_)
  exact G_iret (pc := 9) dX5_slotOf_9
def fX7_clear_L2 (fu : Nat) (a0 : Int) (a1 : Int) : Nat → z_M → Int → (z_M → z_O) → z_O
  | 0, _, _, _ => none
  | F + 1, s, a2, k => if (a1 : Int) ≤ a2 then (k s) else (if z_ob a0 7 then z_bN (fX7_put fu s a0 a2 0) (fun s1 => z_let (z_w (a2 + 1)) (fun x2 => fX7_clear_L2 fu a0 a1 F s1 x2 k)) else none)
theorem gX7_clear_L2 {l : Launch} {K : z_K} (hst : l.stackTraces = false) (fu : Nat) (a0 : Int) (a1 : Int) (k : z_M → z_O) (hk : ∀ (s : z_M), G l K mX7_clear 1 22 0 0 19 [vU, vU, vU] [] s (k s)) : ∀ (F : Nat) (s : z_M) (a2 : Int), G l K mX7_clear 1 22 0 0 2 [vR a0, vI a1, vI a2] [] s (fX7_clear_L2 fu a0 a1 F s a2 k) := by
  intro F
  induction F with
  | zero => exact fun s a2 h => absurd rfl h
  | succ F ih =>
    intro s a2
    rw [fX7_clear_L2]
    refine G_iload_n (x := a2) (pc := 2) dX7_clear_2 rfl ?_
    refine G_iload_n (x := a1) (pc := 3) dX7_clear_3 rfl ?_
    refine G_icmp_ge (tgt := 19) (pc := 4) dX7_clear_4 ?_ ?_
    · refine G_fg (lv2 := [vU, vU, vU]) ⟨Or.inl rfl, Or.inl rfl, Or.inl rfl, trivial⟩ ?_
      exact hk s
    · refine G_aload_n (x := a0) (pc := 7) dX7_clear_7 rfl ?_
      refine G_iload_n (x := a2) (pc := 8) dX7_clear_8 rfl ?_
      refine G_iconst (pc := 9) dX7_clear_9 ?_
      refine G_callVN (as := [vI a2, vI 0]) (st := []) (c := 7) (bc2 := 0) (bs2 := 0) (pc := 10) dX7_clear_10 z_mX7_put z_vX7_put z_wX7_13 (gX7_put hst fu s a0 a2 0) rfl rfl (by decide) rfl rfl ⟨by decide, by decide, by decide, by decide, Nat.le_of_ble_eq_true rfl⟩ rfl (fun s1 => ?_)
      refine G_iinc (x := a2) (g := fun x2 => [vR a0, vI a1, vI x2]) (pc := 13) dX7_clear_13 rfl (fun _ => rfl) (fun x2 => ?_)
      refine G_goto (tgt := 2) (pc := 16) dX7_clear_16 ?_
      exact ih s1 x2
def fX7_clear (fu : Nat) (s : z_M) (a0 : Int) (a1 : Int) : z_O := fX7_clear_L2 fu a0 a1 fu s 0 (fun s3 => some (vN, s3))
theorem gX7_clear {l : Launch} {K : z_K} (hst : l.stackTraces = false) (fu : Nat) (s : z_M) (a0 : Int) (a1 : Int) : z_D l K mX7_clear 1 22 0 0 [vR a0, vI a1] s (fX7_clear fu s a0 a1) := by
  refine z_D_of (lv := [vR a0, vI a1, vU]) hst z_mX7_clear rfl ?_ (Nat.le_of_ble_eq_true rfl) rfl
  unfold fX7_clear
  refine G_iconst (pc := 0) dX7_clear_0 ?_
  refine G_istore_n (lv' := [vR a0, vI a1, vI 0]) (pc := 1) dX7_clear_1 rfl ?_
  refine gX7_clear_L2 hst fu a0 a1 _ (fun s3 => ?_) fu s 0
  exact G_vret (pc := 19) dX7_clear_19
def fX5_forget (fu : Nat) (s : z_M) (a0 : Int) : z_O := if z_ob a0 5 then z_let (z_gr a0 3) (fun x1 => if z_ob a0 5 then z_let (z_gr a0 0) (fun x2 => if z_ob x2 10 then z_let (s x2 16) (fun x3 => z_bI (fX5_slotOf fu s 0 x3) (fun x5 s4 => if z_ob x1 7 then z_bN (fX7_clear fu s4 x1 x5) (fun s6 => some (vN, s6)) else none)) else none) else none) else none
theorem gX5_forget {l : Launch} {K : z_K} (hst : l.stackTraces = false) (fu : Nat) (s : z_M) (a0 : Int) : z_D l K mX5_forget 2 44 0 0 [vR a0] s (fX5_forget fu s a0) := by
  refine z_D_of (lv := [vR a0]) hst z_mX5_forget rfl ?_ (Nat.le_of_ble_eq_true rfl) rfl
  unfold fX5_forget
  refine G_aload_n (x := a0) (pc := 0) dX5_forget_0 rfl ?_
  refine G_getR (j := 3) (pc := 1) dX5_forget_1 rfl z_CLX5 (by decide) z_wX5_14 (by decide) (fun x1 => ?_)
  refine G_iconst (pc := 4) dX5_forget_4 ?_
  refine G_aload_n (x := a0) (pc := 5) dX5_forget_5 rfl ?_
  refine G_getR (j := 0) (pc := 6) dX5_forget_6 rfl z_CLX5 (by decide) z_wX5_20 (by decide) (fun x2 => ?_)
  refine G_getI (j := 16) (pc := 9) dX5_forget_9 rfl z_CLX10 (by decide) z_wX5_36 (by decide) (fun x3 => ?_)
  refine G_callSI (as := [vI 0, vI x3]) (st := [vR x1]) (bc2 := 0) (bs2 := 0) (pc := 12) dX5_forget_12 z_mX5_slotOf z_sX5_slotOf z_wX5_42 (gX5_slotOf hst fu s 0 x3) rfl rfl ⟨by decide, by decide, by decide, by decide, Nat.le_of_ble_eq_true rfl⟩ rfl (fun x5 s4 => ?_)
  refine G_callVN (as := [vI x5]) (st := []) (c := 7) (bc2 := 0) (bs2 := 0) (pc := 15) dX5_forget_15 z_mX7_clear z_vX7_clear z_wX5_46 (gX7_clear hst fu s4 x1 x5) rfl rfl (by decide) rfl rfl ⟨by decide, by decide, by decide, by decide, Nat.le_of_ble_eq_true rfl⟩ rfl (fun s6 => ?_)
  exact G_vret (pc := 18) dX5_forget_18
def fX10_solid (fu : Nat) (s : z_M) (a0 : Int) (a1 : Int) (a2 : Int) : z_O := if z_ob a0 10 then z_let (z_gr a0 12) (fun x1 => z_let (z_w (a2 + 1)) (fun x2 => if z_ob x1 7 then z_bI (fX7_get fu s x1 x2) (fun x4 s3 => if z_ob a0 10 then z_let (z_gr a0 12) (fun x5 => if z_ob x5 7 then z_bI (fX7_get fu s3 x5 a1) (fun x7 s6 => z_let (z_w (x4 - x7)) (fun x8 => some (vI x8, s6))) else none) else none) else none)) else none
theorem gX10_solid {l : Launch} {K : z_K} (hst : l.stackTraces = false) (fu : Nat) (s : z_M) (a0 : Int) (a1 : Int) (a2 : Int) : z_D l K mX10_solid 1 21 0 0 [vR a0, vI a1, vI a2] s (fX10_solid fu s a0 a1 a2) := by
  refine z_D_of (lv := [vR a0, vI a1, vI a2]) hst z_mX10_solid rfl ?_ (Nat.le_of_ble_eq_true rfl) rfl
  unfold fX10_solid
  refine G_aload_n (x := a0) (pc := 0) dX10_solid_0 rfl ?_
  refine G_getR (j := 12) (pc := 1) dX10_solid_1 rfl z_CLX10 (by decide) z_wX10_47 (by decide) (fun x1 => ?_)
  refine G_iload_n (x := a2) (pc := 4) dX10_solid_4 rfl ?_
  refine G_iconst (pc := 5) dX10_solid_5 ?_
  refine G_iadd (pc := 6) dX10_solid_6 (fun x2 => ?_)
  refine G_callVI (as := [vI x2]) (st := []) (c := 7) (bc2 := 0) (bs2 := 0) (pc := 7) dX10_solid_7 z_mX7_get z_vX7_get z_wX10_109 (gX7_get hst fu s x1 x2) rfl rfl (by decide) rfl rfl ⟨by decide, by decide, by decide, by decide, Nat.le_of_ble_eq_true rfl⟩ rfl (fun x4 s3 => ?_)
  refine G_aload_n (x := a0) (pc := 10) dX10_solid_10 rfl ?_
  refine G_getR (j := 12) (pc := 11) dX10_solid_11 rfl z_CLX10 (by decide) z_wX10_47 (by decide) (fun x5 => ?_)
  refine G_iload_n (x := a1) (pc := 14) dX10_solid_14 rfl ?_
  refine G_callVI (as := [vI a1]) (st := [vI x4]) (c := 7) (bc2 := 0) (bs2 := 0) (pc := 15) dX10_solid_15 z_mX7_get z_vX7_get z_wX10_109 (gX7_get hst fu s3 x5 a1) rfl rfl (by decide) rfl rfl ⟨by decide, by decide, by decide, by decide, Nat.le_of_ble_eq_true rfl⟩ rfl (fun x7 s6 => ?_)
  refine G_isub (pc := 18) dX10_solid_18 (fun x8 => ?_)
  exact G_iret (pc := 19) dX10_solid_19
def fX1_closesLine_J33 (fu : Nat) (s : z_M) (t0 : Int) : z_O := if z_bl t0 then some (vI t0, s) else none
theorem gX1_closesLine_J33 {l : Launch} {K : z_K} (hst : l.stackTraces = false) (fu : Nat) (s : z_M) (t0 : Int) : G l K mX1_closesLine 1 21 0 0 33 [vU, vU] [vI t0] s (fX1_closesLine_J33 fu s t0) := by
  unfold fX1_closesLine_J33
  exact G_zret (pc := 33) dX1_closesLine_33
def fX1_closesLine_J28 (fu : Nat) (s : z_M) : z_O := fX1_closesLine_J33 fu s 1
theorem gX1_closesLine_J28 {l : Launch} {K : z_K} (hst : l.stackTraces = false) (fu : Nat) (s : z_M) : G l K mX1_closesLine 1 21 0 0 28 [vU, vU] [] s (fX1_closesLine_J28 fu s) := by
  unfold fX1_closesLine_J28
  refine G_iconst (pc := 28) dX1_closesLine_28 ?_
  refine G_goto (tgt := 33) (pc := 29) dX1_closesLine_29 ?_
  exact gX1_closesLine_J33 hst fu s 1
def fX1_closesLine (fu : Nat) (s : z_M) (a0 : Int) (a1 : Int) : z_O := if z_ob a0 1 then z_let (z_gr a0 0) (fun x1 => if z_ob x1 10 then z_let (s x1 16) (fun x2 => z_let (z_w (x2 - 1)) (fun x3 => if (a1 : Int) = x3 then (fX1_closesLine_J28 fu s) else (if z_ob a0 1 then z_let (z_gr a0 0) (fun x4 => if z_ob x4 10 then z_let (z_gr x4 10) (fun x5 => if z_ob x5 7 then z_bI (fX7_get fu s x5 a1) (fun x7 s6 => if (x7 : Int) ≠ 1 then (fX1_closesLine_J33 fu s6 0) else (fX1_closesLine_J28 fu s6)) else none) else none) else none))) else none) else none
theorem gX1_closesLine {l : Launch} {K : z_K} (hst : l.stackTraces = false) (fu : Nat) (s : z_M) (a0 : Int) (a1 : Int) : z_D l K mX1_closesLine 1 21 0 0 [vR a0, vI a1] s (fX1_closesLine fu s a0 a1) := by
  refine z_D_of (lv := [vR a0, vI a1]) hst z_mX1_closesLine rfl ?_ (Nat.le_of_ble_eq_true rfl) rfl
  unfold fX1_closesLine
  refine G_iload_n (x := a1) (pc := 0) dX1_closesLine_0 rfl ?_
  refine G_aload_n (x := a0) (pc := 1) dX1_closesLine_1 rfl ?_
  refine G_getR (j := 0) (pc := 2) dX1_closesLine_2 rfl z_CLX1 (by decide) z_wX1_33 (by decide) (fun x1 => ?_)
  refine G_getI (j := 16) (pc := 5) dX1_closesLine_5 rfl z_CLX10 (by decide) z_wX1_48 (by decide) (fun x2 => ?_)
  refine G_iconst (pc := 8) dX1_closesLine_8 ?_
  refine G_isub (pc := 9) dX1_closesLine_9 (fun x3 => ?_)
  refine G_icmp_eq (tgt := 28) (pc := 10) dX1_closesLine_10 ?_ ?_
  · refine G_fg (lv2 := [vU, vU]) ⟨Or.inl rfl, Or.inl rfl, trivial⟩ ?_
    exact gX1_closesLine_J28 hst fu s
  · refine G_aload_n (x := a0) (pc := 13) dX1_closesLine_13 rfl ?_
    refine G_getR (j := 0) (pc := 14) dX1_closesLine_14 rfl z_CLX1 (by decide) z_wX1_33 (by decide) (fun x4 => ?_)
    refine G_getR (j := 10) (pc := 17) dX1_closesLine_17 rfl z_CLX10 (by decide) z_wX1_80 (by decide) (fun x5 => ?_)
    refine G_iload_n (x := a1) (pc := 20) dX1_closesLine_20 rfl ?_
    refine G_callVI (as := [vI a1]) (st := []) (c := 7) (bc2 := 0) (bs2 := 0) (pc := 21) dX1_closesLine_21 z_mX7_get z_vX7_get z_wX1_55 (gX7_get hst fu s x5 a1) rfl rfl (by decide) rfl rfl ⟨by decide, by decide, by decide, by decide, Nat.le_of_ble_eq_true rfl⟩ rfl (fun x7 s6 => ?_)
    refine G_iconst (pc := 24) dX1_closesLine_24 ?_
    refine G_icmp_ne (tgt := 32) (pc := 25) dX1_closesLine_25 ?_ ?_
    · refine G_iconst (pc := 32) dX1_closesLine_32 ?_
      refine G_fg (lv2 := [vU, vU]) ⟨Or.inl rfl, Or.inl rfl, trivial⟩ ?_
      exact gX1_closesLine_J33 hst fu s6 0
    · refine G_fg (lv2 := [vU, vU]) ⟨Or.inl rfl, Or.inl rfl, trivial⟩ ?_
      exact gX1_closesLine_J28 hst fu s6
def fX5_trim_L10 (fu : Nat) (a0 : Int) : Nat → z_M → (z_M → z_O) → z_O
  | 0, _, _ => none
  | F + 1, s, k => if z_ob a0 5 then z_let (s a0 4) (fun x3 => if z_ob a0 5 then z_let (s a0 5) (fun x4 => if (x4 : Int) < x3 then (k s) else (if z_ob a0 5 then z_let (z_gr a0 0) (fun x5 => if z_ob x5 10 then z_let (z_gr x5 2) (fun x6 => if z_ob a0 5 then z_let (s a0 4) (fun x7 => if z_ob x6 7 then z_bI (fX7_get fu s x6 x7) (fun x9 s8 => if (x9 : Int) ≠ 6 then (k s8) else (if z_ob a0 5 then z_let (s8 a0 4) (fun x10 => z_let (z_w (x10 + 1)) (fun x11 => if z_ob a0 5 then z_let (z_up s8 a0 4 x11) (fun s12 => fX5_trim_L10 fu a0 F s12 k) else none)) else none)) else none) else none) else none) else none)) else none) else none
theorem gX5_trim_L10 {l : Launch} {K : z_K} (hst : l.stackTraces = false) (fu : Nat) (a0 : Int) (k : z_M → z_O) (hk : ∀ (s : z_M), G l K mX5_trim 1 21 0 0 53 [vR a0, vU, vU] [] s (k s)) : ∀ (F : Nat) (s : z_M), G l K mX5_trim 1 21 0 0 10 [vR a0, vU, vU] [] s (fX5_trim_L10 fu a0 F s k) := by
  intro F
  induction F with
  | zero => exact fun s h => absurd rfl h
  | succ F ih =>
    intro s
    rw [fX5_trim_L10]
    refine G_aload_n (x := a0) (pc := 10) dX5_trim_10 rfl ?_
    refine G_getI (j := 4) (pc := 11) dX5_trim_11 rfl z_CLX5 (by decide) z_wX5_49 (by decide) (fun x3 => ?_)
    refine G_aload_n (x := a0) (pc := 14) dX5_trim_14 rfl ?_
    refine G_getI (j := 5) (pc := 15) dX5_trim_15 rfl z_CLX5 (by decide) z_wX5_52 (by decide) (fun x4 => ?_)
    refine G_icmp_gt (tgt := 53) (pc := 18) dX5_trim_18 ?_ ?_
    · exact hk s
    · refine G_aload_n (x := a0) (pc := 21) dX5_trim_21 rfl ?_
      refine G_getR (j := 0) (pc := 22) dX5_trim_22 rfl z_CLX5 (by decide) z_wX5_20 (by decide) (fun x5 => ?_)
      refine G_getR (j := 2) (pc := 25) dX5_trim_25 rfl z_CLX10 (by decide) z_wX5_55 (by decide) (fun x6 => ?_)
      refine G_aload_n (x := a0) (pc := 28) dX5_trim_28 rfl ?_
      refine G_getI (j := 4) (pc := 29) dX5_trim_29 rfl z_CLX5 (by decide) z_wX5_49 (by decide) (fun x7 => ?_)
      refine G_callVI (as := [vI x7]) (st := []) (c := 7) (bc2 := 0) (bs2 := 0) (pc := 32) dX5_trim_32 z_mX7_get z_vX7_get z_wX5_58 (gX7_get hst fu s x6 x7) rfl rfl (by decide) rfl rfl ⟨by decide, by decide, by decide, by decide, Nat.le_of_ble_eq_true rfl⟩ rfl (fun x9 s8 => ?_)
      refine G_bipush (pc := 35) dX5_trim_35 ?_
      refine G_icmp_ne (tgt := 53) (pc := 37) dX5_trim_37 ?_ ?_
      · exact hk s8
      · refine G_aload_n (x := a0) (pc := 40) dX5_trim_40 rfl ?_
        refine G_dupR (pc := 41) dX5_trim_41 ?_
        refine G_getI (j := 4) (pc := 42) dX5_trim_42 rfl z_CLX5 (by decide) z_wX5_49 (by decide) (fun x10 => ?_)
        refine G_iconst (pc := 45) dX5_trim_45 ?_
        refine G_iadd (pc := 46) dX5_trim_46 (fun x11 => ?_)
        refine G_putI (j := 4) (pc := 47) dX5_trim_47 rfl z_CLX5 (by decide) z_wX5_49 rfl (by decide) (by decide) (fun s12 => ?_)
        refine G_goto (tgt := 10) (pc := 50) dX5_trim_50 ?_
        exact ih s12
def fX5_trim_L53 (fu : Nat) (a0 : Int) : Nat → z_M → (z_M → z_O) → z_O
  | 0, _, _ => none
  | F + 1, s, k => if z_ob a0 5 then z_let (s a0 4) (fun x14 => if z_ob a0 5 then z_let (s a0 5) (fun x15 => if (x15 : Int) < x14 then (k s) else (if z_ob a0 5 then z_let (z_gr a0 0) (fun x16 => if z_ob x16 10 then z_let (z_gr x16 2) (fun x17 => if z_ob a0 5 then z_let (s a0 5) (fun x18 => if z_ob x17 7 then z_bI (fX7_get fu s x17 x18) (fun x20 s19 => if (x20 : Int) ≠ 6 then (k s19) else (if z_ob a0 5 then z_let (s19 a0 5) (fun x21 => z_let (z_w (x21 - 1)) (fun x22 => if z_ob a0 5 then z_let (z_up s19 a0 5 x22) (fun s23 => fX5_trim_L53 fu a0 F s23 k) else none)) else none)) else none) else none) else none) else none)) else none) else none
theorem gX5_trim_L53 {l : Launch} {K : z_K} (hst : l.stackTraces = false) (fu : Nat) (a0 : Int) (k : z_M → z_O) (hk : ∀ (s : z_M), G l K mX5_trim 1 21 0 0 96 [vU, vU, vU] [] s (k s)) : ∀ (F : Nat) (s : z_M), G l K mX5_trim 1 21 0 0 53 [vR a0, vU, vU] [] s (fX5_trim_L53 fu a0 F s k) := by
  intro F
  induction F with
  | zero => exact fun s h => absurd rfl h
  | succ F ih =>
    intro s
    rw [fX5_trim_L53]
    refine G_aload_n (x := a0) (pc := 53) dX5_trim_53 rfl ?_
    refine G_getI (j := 4) (pc := 54) dX5_trim_54 rfl z_CLX5 (by decide) z_wX5_49 (by decide) (fun x14 => ?_)
    refine G_aload_n (x := a0) (pc := 57) dX5_trim_57 rfl ?_
    refine G_getI (j := 5) (pc := 58) dX5_trim_58 rfl z_CLX5 (by decide) z_wX5_52 (by decide) (fun x15 => ?_)
    refine G_icmp_gt (tgt := 96) (pc := 61) dX5_trim_61 ?_ ?_
    · refine G_fg (lv2 := [vU, vU, vU]) ⟨Or.inl rfl, Or.inl rfl, Or.inl rfl, trivial⟩ ?_
      exact hk s
    · refine G_aload_n (x := a0) (pc := 64) dX5_trim_64 rfl ?_
      refine G_getR (j := 0) (pc := 65) dX5_trim_65 rfl z_CLX5 (by decide) z_wX5_20 (by decide) (fun x16 => ?_)
      refine G_getR (j := 2) (pc := 68) dX5_trim_68 rfl z_CLX10 (by decide) z_wX5_55 (by decide) (fun x17 => ?_)
      refine G_aload_n (x := a0) (pc := 71) dX5_trim_71 rfl ?_
      refine G_getI (j := 5) (pc := 72) dX5_trim_72 rfl z_CLX5 (by decide) z_wX5_52 (by decide) (fun x18 => ?_)
      refine G_callVI (as := [vI x18]) (st := []) (c := 7) (bc2 := 0) (bs2 := 0) (pc := 75) dX5_trim_75 z_mX7_get z_vX7_get z_wX5_58 (gX7_get hst fu s x17 x18) rfl rfl (by decide) rfl rfl ⟨by decide, by decide, by decide, by decide, Nat.le_of_ble_eq_true rfl⟩ rfl (fun x20 s19 => ?_)
      refine G_bipush (pc := 78) dX5_trim_78 ?_
      refine G_icmp_ne (tgt := 96) (pc := 80) dX5_trim_80 ?_ ?_
      · refine G_fg (lv2 := [vU, vU, vU]) ⟨Or.inl rfl, Or.inl rfl, Or.inl rfl, trivial⟩ ?_
        exact hk s19
      · refine G_aload_n (x := a0) (pc := 83) dX5_trim_83 rfl ?_
        refine G_dupR (pc := 84) dX5_trim_84 ?_
        refine G_getI (j := 5) (pc := 85) dX5_trim_85 rfl z_CLX5 (by decide) z_wX5_52 (by decide) (fun x21 => ?_)
        refine G_iconst (pc := 88) dX5_trim_88 ?_
        refine G_isub (pc := 89) dX5_trim_89 (fun x22 => ?_)
        refine G_putI (j := 5) (pc := 90) dX5_trim_90 rfl z_CLX5 (by decide) z_wX5_52 rfl (by decide) (by decide) (fun s23 => ?_)
        refine G_goto (tgt := 53) (pc := 93) dX5_trim_93 ?_
        exact ih s23
def fX5_trim_J96 (fu : Nat) (s : z_M) : z_O := some (vN, s)
theorem gX5_trim_J96 {l : Launch} {K : z_K} (hst : l.stackTraces = false) (fu : Nat) (s : z_M) : G l K mX5_trim 1 21 0 0 96 [vU, vU, vU] [] s (fX5_trim_J96 fu s) := by
  unfold fX5_trim_J96
  exact G_vret (pc := 96) dX5_trim_96
def fX5_trim (fu : Nat) (s : z_M) (a0 : Int) (a1 : Int) (a2 : Int) : z_O := if z_ob a0 5 then z_let (z_up s a0 4 a1) (fun s1 => if z_ob a0 5 then z_let (z_up s1 a0 5 a2) (fun s2 => fX5_trim_L10 fu a0 fu s2 (fun s13 => fX5_trim_L53 fu a0 fu s13 (fun s24 => fX5_trim_J96 fu s24))) else none) else none
theorem gX5_trim {l : Launch} {K : z_K} (hst : l.stackTraces = false) (fu : Nat) (s : z_M) (a0 : Int) (a1 : Int) (a2 : Int) : z_D l K mX5_trim 1 21 0 0 [vR a0, vI a1, vI a2] s (fX5_trim fu s a0 a1 a2) := by
  refine z_D_of (lv := [vR a0, vI a1, vI a2]) hst z_mX5_trim rfl ?_ (Nat.le_of_ble_eq_true rfl) rfl
  unfold fX5_trim
  refine G_aload_n (x := a0) (pc := 0) dX5_trim_0 rfl ?_
  refine G_iload_n (x := a1) (pc := 1) dX5_trim_1 rfl ?_
  refine G_putI (j := 4) (pc := 2) dX5_trim_2 rfl z_CLX5 (by decide) z_wX5_49 rfl (by decide) (by decide) (fun s1 => ?_)
  refine G_aload_n (x := a0) (pc := 5) dX5_trim_5 rfl ?_
  refine G_iload_n (x := a2) (pc := 6) dX5_trim_6 rfl ?_
  refine G_putI (j := 5) (pc := 7) dX5_trim_7 rfl z_CLX5 (by decide) z_wX5_52 rfl (by decide) (by decide) (fun s2 => ?_)
  refine G_fg (lv2 := [vR a0, vU, vU]) ⟨Or.inr rfl, Or.inl rfl, Or.inl rfl, trivial⟩ ?_
  refine gX5_trim_L10 hst fu a0 _ (fun s13 => ?_) fu s2
  refine gX5_trim_L53 hst fu a0 _ (fun s24 => ?_) fu s13
  exact gX5_trim_J96 hst fu s24
def fX5_hangsOut_J41 (fu : Nat) (s : z_M) (t0 : Int) : z_O := if z_bl t0 then some (vI t0, s) else none
theorem gX5_hangsOut_J41 {l : Launch} {K : z_K} (hst : l.stackTraces = false) (fu : Nat) (s : z_M) (t0 : Int) : G l K mX5_hangsOut 1 21 0 0 41 [vU, vU] [vI t0] s (fX5_hangsOut_J41 fu s t0) := by
  unfold fX5_hangsOut_J41
  exact G_zret (pc := 41) dX5_hangsOut_41
def fX5_hangsOut_J40 (fu : Nat) (s : z_M) : z_O := fX5_hangsOut_J41 fu s 0
theorem gX5_hangsOut_J40 {l : Launch} {K : z_K} (hst : l.stackTraces = false) (fu : Nat) (s : z_M) : G l K mX5_hangsOut 1 21 0 0 40 [vU, vU] [] s (fX5_hangsOut_J40 fu s) := by
  unfold fX5_hangsOut_J40
  refine G_iconst (pc := 40) dX5_hangsOut_40 ?_
  exact gX5_hangsOut_J41 hst fu s 0
def fX5_hangsOut (fu : Nat) (s : z_M) (a0 : Int) (a1 : Int) : z_O := if z_ob a0 5 then z_let (z_gr a0 1) (fun x1 => if z_ob x1 7 then z_bI (fX7_get fu s x1 6) (fun x3 s2 => if (x3 : Int) ≠ 1 then (fX5_hangsOut_J40 fu s2) else (if z_ob a0 5 then z_let (s2 a0 5) (fun x4 => if (a1 : Int) ≠ x4 then (fX5_hangsOut_J40 fu s2) else (if z_ob a0 5 then z_let (z_gr a0 0) (fun x5 => if z_ob x5 10 then z_let (z_gr x5 2) (fun x6 => if z_ob x6 7 then z_bI (fX7_get fu s2 x6 a1) (fun x8 s7 => if (x8 : Int) ≠ 3 then (fX5_hangsOut_J40 fu s7) else (fX5_hangsOut_J41 fu s7 1)) else none) else none) else none)) else none)) else none) else none
theorem gX5_hangsOut {l : Launch} {K : z_K} (hst : l.stackTraces = false) (fu : Nat) (s : z_M) (a0 : Int) (a1 : Int) : z_D l K mX5_hangsOut 1 21 0 0 [vR a0, vI a1] s (fX5_hangsOut fu s a0 a1) := by
  refine z_D_of (lv := [vR a0, vI a1]) hst z_mX5_hangsOut rfl ?_ (Nat.le_of_ble_eq_true rfl) rfl
  unfold fX5_hangsOut
  refine G_aload_n (x := a0) (pc := 0) dX5_hangsOut_0 rfl ?_
  refine G_getR (j := 1) (pc := 1) dX5_hangsOut_1 rfl z_CLX5 (by decide) z_wX5_24 (by decide) (fun x1 => ?_)
  refine G_bipush (pc := 4) dX5_hangsOut_4 ?_
  refine G_callVI (as := [vI 6]) (st := []) (c := 7) (bc2 := 0) (bs2 := 0) (pc := 6) dX5_hangsOut_6 z_mX7_get z_vX7_get z_wX5_58 (gX7_get hst fu s x1 6) rfl rfl (by decide) rfl rfl ⟨by decide, by decide, by decide, by decide, Nat.le_of_ble_eq_true rfl⟩ rfl (fun x3 s2 => ?_)
  refine G_iconst (pc := 9) dX5_hangsOut_9 ?_
  refine G_icmp_ne (tgt := 40) (pc := 10) dX5_hangsOut_10 ?_ ?_
  · refine G_fg (lv2 := [vU, vU]) ⟨Or.inl rfl, Or.inl rfl, trivial⟩ ?_
    exact gX5_hangsOut_J40 hst fu s2
  · refine G_iload_n (x := a1) (pc := 13) dX5_hangsOut_13 rfl ?_
    refine G_aload_n (x := a0) (pc := 14) dX5_hangsOut_14 rfl ?_
    refine G_getI (j := 5) (pc := 15) dX5_hangsOut_15 rfl z_CLX5 (by decide) z_wX5_52 (by decide) (fun x4 => ?_)
    refine G_icmp_ne (tgt := 40) (pc := 18) dX5_hangsOut_18 ?_ ?_
    · refine G_fg (lv2 := [vU, vU]) ⟨Or.inl rfl, Or.inl rfl, trivial⟩ ?_
      exact gX5_hangsOut_J40 hst fu s2
    · refine G_aload_n (x := a0) (pc := 21) dX5_hangsOut_21 rfl ?_
      refine G_getR (j := 0) (pc := 22) dX5_hangsOut_22 rfl z_CLX5 (by decide) z_wX5_20 (by decide) (fun x5 => ?_)
      refine G_getR (j := 2) (pc := 25) dX5_hangsOut_25 rfl z_CLX10 (by decide) z_wX5_55 (by decide) (fun x6 => ?_)
      refine G_iload_n (x := a1) (pc := 28) dX5_hangsOut_28 rfl ?_
      refine G_callVI (as := [vI a1]) (st := []) (c := 7) (bc2 := 0) (bs2 := 0) (pc := 29) dX5_hangsOut_29 z_mX7_get z_vX7_get z_wX5_58 (gX7_get hst fu s2 x6 a1) rfl rfl (by decide) rfl rfl ⟨by decide, by decide, by decide, by decide, Nat.le_of_ble_eq_true rfl⟩ rfl (fun x8 s7 => ?_)
      refine G_iconst (pc := 32) dX5_hangsOut_32 ?_
      refine G_icmp_ne (tgt := 40) (pc := 33) dX5_hangsOut_33 ?_ ?_
      · refine G_fg (lv2 := [vU, vU]) ⟨Or.inl rfl, Or.inl rfl, trivial⟩ ?_
        exact gX5_hangsOut_J40 hst fu s7
      · refine G_iconst (pc := 36) dX5_hangsOut_36 ?_
        refine G_goto (tgt := 41) (pc := 37) dX5_hangsOut_37 ?_
        refine G_fg (lv2 := [vU, vU]) ⟨Or.inl rfl, Or.inl rfl, trivial⟩ ?_
        exact gX5_hangsOut_J41 hst fu s7 1
def fX5_spaceOf_J60 (fu : Nat) (s : z_M) (t0 : Int) : z_O := some (vI t0, s)
theorem gX5_spaceOf_J60 {l : Launch} {K : z_K} (hst : l.stackTraces = false) (fu : Nat) (s : z_M) (t0 : Int) : G l K mX5_spaceOf 1 21 0 0 60 [vU, vU, vU, vU] [vI t0] s (fX5_spaceOf_J60 fu s t0) := by
  unfold fX5_spaceOf_J60
  exact G_iret (pc := 60) dX5_spaceOf_60
def fX5_spaceOf_J54 (fu : Nat) (s : z_M) : z_O := fX5_spaceOf_J60 fu s 0
theorem gX5_spaceOf_J54 {l : Launch} {K : z_K} (hst : l.stackTraces = false) (fu : Nat) (s : z_M) : G l K mX5_spaceOf 1 21 0 0 54 [vU, vU, vU, vU] [] s (fX5_spaceOf_J54 fu s) := by
  unfold fX5_spaceOf_J54
  refine G_iconst (pc := 54) dX5_spaceOf_54 ?_
  refine G_goto (tgt := 60) (pc := 55) dX5_spaceOf_55 ?_
  exact gX5_spaceOf_J60 hst fu s 0
def fX5_spaceOf_J22 (fu : Nat) (s : z_M) (a0 : Int) (a1 : Int) : z_O := if z_ob a0 5 then z_let (z_gr a0 0) (fun x5 => if z_ob x5 10 then z_let (z_gr x5 2) (fun x6 => z_let (z_w (a1 + 1)) (fun x7 => if z_ob x6 7 then z_bI (fX7_get fu s x6 x7) (fun x9 s8 => if z_ob a0 5 then z_let (s8 a0 5) (fun x10 => if (a1 : Int) = x10 then (fX5_spaceOf_J54 fu s8) else (if (x9 : Int) = 3 then (fX5_spaceOf_J54 fu s8) else (if (x9 : Int) ≠ 5 then (fX5_spaceOf_J60 fu s8 6) else (fX5_spaceOf_J54 fu s8)))) else none) else none)) else none) else none
theorem gX5_spaceOf_J22 {l : Launch} {K : z_K} (hst : l.stackTraces = false) (fu : Nat) (s : z_M) (a0 : Int) (a1 : Int) : G l K mX5_spaceOf 1 21 0 0 22 [vR a0, vI a1, vU, vU] [] s (fX5_spaceOf_J22 fu s a0 a1) := by
  unfold fX5_spaceOf_J22
  refine G_aload_n (x := a0) (pc := 22) dX5_spaceOf_22 rfl ?_
  refine G_getR (j := 0) (pc := 23) dX5_spaceOf_23 rfl z_CLX5 (by decide) z_wX5_20 (by decide) (fun x5 => ?_)
  refine G_getR (j := 2) (pc := 26) dX5_spaceOf_26 rfl z_CLX10 (by decide) z_wX5_55 (by decide) (fun x6 => ?_)
  refine G_iload_n (x := a1) (pc := 29) dX5_spaceOf_29 rfl ?_
  refine G_iconst (pc := 30) dX5_spaceOf_30 ?_
  refine G_iadd (pc := 31) dX5_spaceOf_31 (fun x7 => ?_)
  refine G_callVI (as := [vI x7]) (st := []) (c := 7) (bc2 := 0) (bs2 := 0) (pc := 32) dX5_spaceOf_32 z_mX7_get z_vX7_get z_wX5_58 (gX7_get hst fu s x6 x7) rfl rfl (by decide) rfl rfl ⟨by decide, by decide, by decide, by decide, Nat.le_of_ble_eq_true rfl⟩ rfl (fun x9 s8 => ?_)
  refine G_istore_n (lv' := [vR a0, vI a1, vU, vI x9]) (pc := 35) dX5_spaceOf_35 rfl ?_
  refine G_iload_n (x := a1) (pc := 36) dX5_spaceOf_36 rfl ?_
  refine G_aload_n (x := a0) (pc := 37) dX5_spaceOf_37 rfl ?_
  refine G_getI (j := 5) (pc := 38) dX5_spaceOf_38 rfl z_CLX5 (by decide) z_wX5_52 (by decide) (fun x10 => ?_)
  refine G_icmp_eq (tgt := 54) (pc := 41) dX5_spaceOf_41 ?_ ?_
  · refine G_fg (lv2 := [vU, vU, vU, vU]) ⟨Or.inl rfl, Or.inl rfl, Or.inl rfl, Or.inl rfl, trivial⟩ ?_
    exact gX5_spaceOf_J54 hst fu s8
  · refine G_iload_n (x := x9) (pc := 44) dX5_spaceOf_44 rfl ?_
    refine G_iconst (pc := 45) dX5_spaceOf_45 ?_
    refine G_icmp_eq (tgt := 54) (pc := 46) dX5_spaceOf_46 ?_ ?_
    · refine G_fg (lv2 := [vU, vU, vU, vU]) ⟨Or.inl rfl, Or.inl rfl, Or.inl rfl, Or.inl rfl, trivial⟩ ?_
      exact gX5_spaceOf_J54 hst fu s8
    · refine G_iload_n (x := x9) (pc := 49) dX5_spaceOf_49 rfl ?_
      refine G_iconst (pc := 50) dX5_spaceOf_50 ?_
      refine G_icmp_ne (tgt := 58) (pc := 51) dX5_spaceOf_51 ?_ ?_
      · refine G_bipush (pc := 58) dX5_spaceOf_58 ?_
        refine G_fg (lv2 := [vU, vU, vU, vU]) ⟨Or.inl rfl, Or.inl rfl, Or.inl rfl, Or.inl rfl, trivial⟩ ?_
        exact gX5_spaceOf_J60 hst fu s8 6
      · refine G_fg (lv2 := [vU, vU, vU, vU]) ⟨Or.inl rfl, Or.inl rfl, Or.inl rfl, Or.inl rfl, trivial⟩ ?_
        exact gX5_spaceOf_J54 hst fu s8
def fX5_spaceOf_J109 (fu : Nat) (s : z_M) (t0 : Int) : z_O := some (vI t0, s)
theorem gX5_spaceOf_J109 {l : Launch} {K : z_K} (hst : l.stackTraces = false) (fu : Nat) (s : z_M) (t0 : Int) : G l K mX5_spaceOf 1 21 0 0 109 [vU, vU, vU, vU] [vI t0] s (fX5_spaceOf_J109 fu s t0) := by
  unfold fX5_spaceOf_J109
  exact G_iret (pc := 109) dX5_spaceOf_109
def fX5_spaceOf_J103 (fu : Nat) (s : z_M) : z_O := fX5_spaceOf_J109 fu s 0
theorem gX5_spaceOf_J103 {l : Launch} {K : z_K} (hst : l.stackTraces = false) (fu : Nat) (s : z_M) : G l K mX5_spaceOf 1 21 0 0 103 [vU, vU, vU, vU] [] s (fX5_spaceOf_J103 fu s) := by
  unfold fX5_spaceOf_J103
  refine G_iconst (pc := 103) dX5_spaceOf_103 ?_
  refine G_goto (tgt := 109) (pc := 104) dX5_spaceOf_104 ?_
  exact gX5_spaceOf_J109 hst fu s 0
def fX5_spaceOf (fu : Nat) (s : z_M) (a0 : Int) (a1 : Int) : z_O := if z_ob a0 5 then z_let (z_gr a0 0) (fun x1 => if z_ob x1 10 then z_let (z_gr x1 2) (fun x2 => if z_ob x2 7 then z_bI (fX7_get fu s x2 a1) (fun x4 s3 => if (x4 : Int) = 3 then (fX5_spaceOf_J22 fu s3 a0 a1) else (if (x4 : Int) ≠ 5 then (if (x4 : Int) ≠ 4 then (some (vI 0, s3)) else (if z_ob a0 5 then z_let (z_gr a0 0) (fun x11 => if z_ob x11 10 then z_let (z_gr x11 2) (fun x12 => z_let (z_w (a1 - 1)) (fun x13 => if z_ob x12 7 then z_bI (fX7_get fu s3 x12 x13) (fun x15 s14 => if z_ob a0 5 then z_let (s14 a0 4) (fun x16 => if (a1 : Int) = x16 then (fX5_spaceOf_J103 fu s14) else (if (x15 : Int) = 3 then (fX5_spaceOf_J103 fu s14) else (if (x15 : Int) = 5 then (fX5_spaceOf_J103 fu s14) else (if (x15 : Int) ≠ 4 then (fX5_spaceOf_J109 fu s14 6) else (fX5_spaceOf_J103 fu s14))))) else none) else none)) else none) else none)) else (fX5_spaceOf_J22 fu s3 a0 a1))) else none) else none) else none
theorem gX5_spaceOf {l : Launch} {K : z_K} (hst : l.stackTraces = false) (fu : Nat) (s : z_M) (a0 : Int) (a1 : Int) : z_D l K mX5_spaceOf 1 21 0 0 [vR a0, vI a1] s (fX5_spaceOf fu s a0 a1) := by
  refine z_D_of (lv := [vR a0, vI a1, vU, vU]) hst z_mX5_spaceOf rfl ?_ (Nat.le_of_ble_eq_true rfl) rfl
  unfold fX5_spaceOf
  refine G_aload_n (x := a0) (pc := 0) dX5_spaceOf_0 rfl ?_
  refine G_getR (j := 0) (pc := 1) dX5_spaceOf_1 rfl z_CLX5 (by decide) z_wX5_20 (by decide) (fun x1 => ?_)
  refine G_getR (j := 2) (pc := 4) dX5_spaceOf_4 rfl z_CLX10 (by decide) z_wX5_55 (by decide) (fun x2 => ?_)
  refine G_iload_n (x := a1) (pc := 7) dX5_spaceOf_7 rfl ?_
  refine G_callVI (as := [vI a1]) (st := []) (c := 7) (bc2 := 0) (bs2 := 0) (pc := 8) dX5_spaceOf_8 z_mX7_get z_vX7_get z_wX5_58 (gX7_get hst fu s x2 a1) rfl rfl (by decide) rfl rfl ⟨by decide, by decide, by decide, by decide, Nat.le_of_ble_eq_true rfl⟩ rfl (fun x4 s3 => ?_)
  refine G_istore_n (lv' := [vR a0, vI a1, vI x4, vU]) (pc := 11) dX5_spaceOf_11 rfl ?_
  refine G_iload_n (x := x4) (pc := 12) dX5_spaceOf_12 rfl ?_
  refine G_iconst (pc := 13) dX5_spaceOf_13 ?_
  refine G_icmp_eq (tgt := 22) (pc := 14) dX5_spaceOf_14 ?_ ?_
  · refine G_fg (lv2 := [vR a0, vI a1, vU, vU]) ⟨Or.inr rfl, Or.inr rfl, Or.inl rfl, Or.inl rfl, trivial⟩ ?_
    exact gX5_spaceOf_J22 hst fu s3 a0 a1
  · refine G_iload_n (x := x4) (pc := 17) dX5_spaceOf_17 rfl ?_
    refine G_iconst (pc := 18) dX5_spaceOf_18 ?_
    refine G_icmp_ne (tgt := 61) (pc := 19) dX5_spaceOf_19 ?_ ?_
    · refine G_iload_n (x := x4) (pc := 61) dX5_spaceOf_61 rfl ?_
      refine G_iconst (pc := 62) dX5_spaceOf_62 ?_
      refine G_icmp_ne (tgt := 110) (pc := 63) dX5_spaceOf_63 ?_ ?_
      · refine G_iconst (pc := 110) dX5_spaceOf_110 ?_
        exact G_iret (pc := 111) dX5_spaceOf_111
      · refine G_aload_n (x := a0) (pc := 66) dX5_spaceOf_66 rfl ?_
        refine G_getR (j := 0) (pc := 67) dX5_spaceOf_67 rfl z_CLX5 (by decide) z_wX5_20 (by decide) (fun x11 => ?_)
        refine G_getR (j := 2) (pc := 70) dX5_spaceOf_70 rfl z_CLX10 (by decide) z_wX5_55 (by decide) (fun x12 => ?_)
        refine G_iload_n (x := a1) (pc := 73) dX5_spaceOf_73 rfl ?_
        refine G_iconst (pc := 74) dX5_spaceOf_74 ?_
        refine G_isub (pc := 75) dX5_spaceOf_75 (fun x13 => ?_)
        refine G_callVI (as := [vI x13]) (st := []) (c := 7) (bc2 := 0) (bs2 := 0) (pc := 76) dX5_spaceOf_76 z_mX7_get z_vX7_get z_wX5_58 (gX7_get hst fu s3 x12 x13) rfl rfl (by decide) rfl rfl ⟨by decide, by decide, by decide, by decide, Nat.le_of_ble_eq_true rfl⟩ rfl (fun x15 s14 => ?_)
        refine G_istore_n (lv' := [vR a0, vI a1, vI x4, vI x15]) (pc := 79) dX5_spaceOf_79 rfl ?_
        refine G_iload_n (x := a1) (pc := 80) dX5_spaceOf_80 rfl ?_
        refine G_aload_n (x := a0) (pc := 81) dX5_spaceOf_81 rfl ?_
        refine G_getI (j := 4) (pc := 82) dX5_spaceOf_82 rfl z_CLX5 (by decide) z_wX5_49 (by decide) (fun x16 => ?_)
        refine G_icmp_eq (tgt := 103) (pc := 85) dX5_spaceOf_85 ?_ ?_
        · refine G_fg (lv2 := [vU, vU, vU, vU]) ⟨Or.inl rfl, Or.inl rfl, Or.inl rfl, Or.inl rfl, trivial⟩ ?_
          exact gX5_spaceOf_J103 hst fu s14
        · refine G_iload_n (x := x15) (pc := 88) dX5_spaceOf_88 rfl ?_
          refine G_iconst (pc := 89) dX5_spaceOf_89 ?_
          refine G_icmp_eq (tgt := 103) (pc := 90) dX5_spaceOf_90 ?_ ?_
          · refine G_fg (lv2 := [vU, vU, vU, vU]) ⟨Or.inl rfl, Or.inl rfl, Or.inl rfl, Or.inl rfl, trivial⟩ ?_
            exact gX5_spaceOf_J103 hst fu s14
          · refine G_iload_n (x := x15) (pc := 93) dX5_spaceOf_93 rfl ?_
            refine G_iconst (pc := 94) dX5_spaceOf_94 ?_
            refine G_icmp_eq (tgt := 103) (pc := 95) dX5_spaceOf_95 ?_ ?_
            · refine G_fg (lv2 := [vU, vU, vU, vU]) ⟨Or.inl rfl, Or.inl rfl, Or.inl rfl, Or.inl rfl, trivial⟩ ?_
              exact gX5_spaceOf_J103 hst fu s14
            · refine G_iload_n (x := x15) (pc := 98) dX5_spaceOf_98 rfl ?_
              refine G_iconst (pc := 99) dX5_spaceOf_99 ?_
              refine G_icmp_ne (tgt := 107) (pc := 100) dX5_spaceOf_100 ?_ ?_
              · refine G_bipush (pc := 107) dX5_spaceOf_107 ?_
                refine G_fg (lv2 := [vU, vU, vU, vU]) ⟨Or.inl rfl, Or.inl rfl, Or.inl rfl, Or.inl rfl, trivial⟩ ?_
                exact gX5_spaceOf_J109 hst fu s14 6
              · refine G_fg (lv2 := [vU, vU, vU, vU]) ⟨Or.inl rfl, Or.inl rfl, Or.inl rfl, Or.inl rfl, trivial⟩ ?_
                exact gX5_spaceOf_J103 hst fu s14
    · refine G_fg (lv2 := [vR a0, vI a1, vU, vU]) ⟨Or.inr rfl, Or.inr rfl, Or.inl rfl, Or.inl rfl, trivial⟩ ?_
      exact gX5_spaceOf_J22 hst fu s3 a0 a1
def fX0_clear (fu : Nat) (s : z_M) (a0 : Int) : z_O := if z_ob a0 0 then z_let (z_up s a0 9 0) (fun s1 => some (vN, s1)) else none
theorem gX0_clear {l : Launch} {K : z_K} (hst : l.stackTraces = false) (fu : Nat) (s : z_M) (a0 : Int) : z_D l K mX0_clear 0 0 0 0 [vR a0] s (fX0_clear fu s a0) := by
  refine z_D_of (lv := [vR a0]) hst z_mX0_clear rfl ?_ (Nat.le_of_ble_eq_true rfl) rfl
  unfold fX0_clear
  refine G_aload_n (x := a0) (pc := 0) dX0_clear_0 rfl ?_
  refine G_iconst (pc := 1) dX0_clear_1 ?_
  refine G_putI (j := 9) (pc := 2) dX0_clear_2 rfl z_CLX0 (by decide) z_wX0_45 rfl (by decide) (by decide) (fun s1 => ?_)
  exact G_vret (pc := 5) dX0_clear_5
def fX0_gather_J245 (fu : Nat) (s : z_M) (a0 : Int) (a1 : Int) (a2 : Int) (a3 : Int) (r : z_M → Int → z_O) (k : z_M → z_O) : z_O := z_let (z_w (a3 + 1)) (fun x57 => r s x57)
theorem gX0_gather_J245 {l : Launch} {K : z_K} (hst : l.stackTraces = false) (fu : Nat) (s : z_M) (a0 : Int) (a1 : Int) (a2 : Int) (a3 : Int) (r : z_M → Int → z_O) (k : z_M → z_O) (hr : ∀ (s : z_M) (a3 : Int), G l K mX0_gather 1 22 0 0 2 [vR a0, vI a1, vI a2, vI a3, vU, vU] [] s (r s a3)) (hk : ∀ (s : z_M), G l K mX0_gather 1 22 0 0 251 [vU, vU, vU, vU, vU, vU] [] s (k s)) : G l K mX0_gather 1 22 0 0 245 [vR a0, vI a1, vI a2, vI a3, vU, vU] [] s (fX0_gather_J245 fu s a0 a1 a2 a3 r k) := by
  unfold fX0_gather_J245
  refine G_iinc (x := a3) (g := fun x57 => [vR a0, vI a1, vI a2, vI x57, vU, vU]) (pc := 245) dX0_gather_245 rfl (fun _ => rfl) (fun x57 => ?_)
  refine G_goto (tgt := 2) (pc := 248) dX0_gather_248 ?_
  exact hr s x57
def fX0_gather_J116 (fu : Nat) (s : z_M) (a0 : Int) (a1 : Int) (a2 : Int) (a3 : Int) (r : z_M → Int → z_O) (k : z_M → z_O) : z_O := if z_ob a0 0 then z_let (s a0 9) (fun x20 => z_let (z_w (x20 - 1)) (fun x21 => if z_ob a0 0 then z_let (z_gr a0 2) (fun x22 => if z_ob x22 7 then z_bN (fX7_put fu s x22 x21 a3) (fun s23 => if z_ob a0 0 then z_let (z_gr a0 3) (fun x24 => if z_ob a0 0 then z_let (z_gr a0 0) (fun x25 => if z_ob x25 10 then z_let (z_gr x25 5) (fun x26 => if z_ob x26 7 then z_bI (fX7_get fu s23 x26 a3) (fun x28 s27 => if z_ob x24 7 then z_bN (fX7_add fu s27 x24 x21 x28) (fun s29 => if z_ob a0 0 then z_let (z_gr a0 7) (fun x30 => if z_ob a0 0 then z_let (z_gr a0 0) (fun x31 => if z_ob x31 10 then z_let (z_gr x31 7) (fun x32 => if z_ob x32 7 then z_bI (fX7_get fu s29 x32 a3) (fun x34 s33 => if z_ob x30 7 then z_bN (fX7_add fu s33 x30 x21 x34) (fun s35 => if z_ob a0 0 then z_let (z_gr a0 8) (fun x36 => if z_ob a0 0 then z_let (z_gr a0 0) (fun x37 => if z_ob x37 10 then z_let (z_gr x37 8) (fun x38 => if z_ob x38 7 then z_bI (fX7_get fu s35 x38 a3) (fun x40 s39 => if z_ob x36 7 then z_bN (fX7_add fu s39 x36 x21 x40) (fun s41 => if z_ob a0 0 then z_let (z_gr a0 7) (fun x42 => if z_ob x42 7 then z_bI (fX7_get fu s41 x42 x21) (fun x44 s43 => if z_ob a0 0 then z_let (z_gr a0 8) (fun x45 => if z_ob x45 7 then z_bI (fX7_get fu s43 x45 x21) (fun x47 s46 => z_let (z_max x44 x47) (fun x48 => z_let (z_w (6 * x48)) (fun x49 => if z_ob a0 0 then z_let (z_gr a0 4) (fun x50 => if z_ob a0 0 then z_let (z_gr a0 3) (fun x51 => if z_ob x51 7 then z_bI (fX7_get fu s46 x51 x21) (fun x53 s52 => z_let (z_w (x49 - x53)) (fun x54 => z_let (z_max 0 x54) (fun x55 => if z_ob x50 7 then z_bN (fX7_put fu s52 x50 x21 x55) (fun s56 => fX0_gather_J245 fu s56 a0 a1 a2 a3 (fun w v3 => r w v3) k) else none))) else none) else none) else none))) else none) else none) else none) else none) else none) else none) else none) else none) else none) else none) else none) else none) else none) else none) else none) else none) else none) else none) else none) else none) else none)) else none
theorem gX0_gather_J116 {l : Launch} {K : z_K} (hst : l.stackTraces = false) (fu : Nat) (s : z_M) (a0 : Int) (a1 : Int) (a2 : Int) (a3 : Int) (r : z_M → Int → z_O) (k : z_M → z_O) (hr : ∀ (s : z_M) (a3 : Int), G l K mX0_gather 1 22 0 0 2 [vR a0, vI a1, vI a2, vI a3, vU, vU] [] s (r s a3)) (hk : ∀ (s : z_M), G l K mX0_gather 1 22 0 0 251 [vU, vU, vU, vU, vU, vU] [] s (k s)) : G l K mX0_gather 1 22 0 0 116 [vR a0, vI a1, vI a2, vI a3, vU, vU] [] s (fX0_gather_J116 fu s a0 a1 a2 a3 r k) := by
  unfold fX0_gather_J116
  refine G_aload_n (x := a0) (pc := 116) dX0_gather_116 rfl ?_
  refine G_getI (j := 9) (pc := 117) dX0_gather_117 rfl z_CLX0 (by decide) z_wX0_45 (by decide) (fun x20 => ?_)
  refine G_iconst (pc := 120) dX0_gather_120 ?_
  refine G_isub (pc := 121) dX0_gather_121 (fun x21 => ?_)
  refine G_istore (lv' := [vR a0, vI a1, vI a2, vI a3, vI x21, vU]) (pc := 122) dX0_gather_122 rfl ?_
  refine G_aload_n (x := a0) (pc := 124) dX0_gather_124 rfl ?_
  refine G_getR (j := 2) (pc := 125) dX0_gather_125 rfl z_CLX0 (by decide) z_wX0_20 (by decide) (fun x22 => ?_)
  refine G_iload (x := x21) (pc := 128) dX0_gather_128 rfl ?_
  refine G_iload_n (x := a3) (pc := 130) dX0_gather_130 rfl ?_
  refine G_callVN (as := [vI x21, vI a3]) (st := []) (c := 7) (bc2 := 0) (bs2 := 0) (pc := 131) dX0_gather_131 z_mX7_put z_vX7_put z_wX0_61 (gX7_put hst fu s x22 x21 a3) rfl rfl (by decide) rfl rfl ⟨by decide, by decide, by decide, by decide, Nat.le_of_ble_eq_true rfl⟩ rfl (fun s23 => ?_)
  refine G_aload_n (x := a0) (pc := 134) dX0_gather_134 rfl ?_
  refine G_getR (j := 3) (pc := 135) dX0_gather_135 rfl z_CLX0 (by decide) z_wX0_23 (by decide) (fun x24 => ?_)
  refine G_iload (x := x21) (pc := 138) dX0_gather_138 rfl ?_
  refine G_aload_n (x := a0) (pc := 140) dX0_gather_140 rfl ?_
  refine G_getR (j := 0) (pc := 141) dX0_gather_141 rfl z_CLX0 (by decide) z_wX0_41 (by decide) (fun x25 => ?_)
  refine G_getR (j := 5) (pc := 144) dX0_gather_144 rfl z_CLX10 (by decide) z_wX0_65 (by decide) (fun x26 => ?_)
  refine G_iload_n (x := a3) (pc := 147) dX0_gather_147 rfl ?_
  refine G_callVI (as := [vI a3]) (st := [vI x21, vR x24]) (c := 7) (bc2 := 0) (bs2 := 0) (pc := 148) dX0_gather_148 z_mX7_get z_vX7_get z_wX0_49 (gX7_get hst fu s23 x26 a3) rfl rfl (by decide) rfl rfl ⟨by decide, by decide, by decide, by decide, Nat.le_of_ble_eq_true rfl⟩ rfl (fun x28 s27 => ?_)
  refine G_callVN (as := [vI x21, vI x28]) (st := []) (c := 7) (bc2 := 0) (bs2 := 0) (pc := 151) dX0_gather_151 z_mX7_add z_vX7_add z_wX0_68 (gX7_add hst fu s27 x24 x21 x28) rfl rfl (by decide) rfl rfl ⟨by decide, by decide, by decide, by decide, Nat.le_of_ble_eq_true rfl⟩ rfl (fun s29 => ?_)
  refine G_aload_n (x := a0) (pc := 154) dX0_gather_154 rfl ?_
  refine G_getR (j := 7) (pc := 155) dX0_gather_155 rfl z_CLX0 (by decide) z_wX0_35 (by decide) (fun x30 => ?_)
  refine G_iload (x := x21) (pc := 158) dX0_gather_158 rfl ?_
  refine G_aload_n (x := a0) (pc := 160) dX0_gather_160 rfl ?_
  refine G_getR (j := 0) (pc := 161) dX0_gather_161 rfl z_CLX0 (by decide) z_wX0_41 (by decide) (fun x31 => ?_)
  refine G_getR (j := 7) (pc := 164) dX0_gather_164 rfl z_CLX10 (by decide) z_wX0_71 (by decide) (fun x32 => ?_)
  refine G_iload_n (x := a3) (pc := 167) dX0_gather_167 rfl ?_
  refine G_callVI (as := [vI a3]) (st := [vI x21, vR x30]) (c := 7) (bc2 := 0) (bs2 := 0) (pc := 168) dX0_gather_168 z_mX7_get z_vX7_get z_wX0_49 (gX7_get hst fu s29 x32 a3) rfl rfl (by decide) rfl rfl ⟨by decide, by decide, by decide, by decide, Nat.le_of_ble_eq_true rfl⟩ rfl (fun x34 s33 => ?_)
  refine G_callVN (as := [vI x21, vI x34]) (st := []) (c := 7) (bc2 := 0) (bs2 := 0) (pc := 171) dX0_gather_171 z_mX7_add z_vX7_add z_wX0_68 (gX7_add hst fu s33 x30 x21 x34) rfl rfl (by decide) rfl rfl ⟨by decide, by decide, by decide, by decide, Nat.le_of_ble_eq_true rfl⟩ rfl (fun s35 => ?_)
  refine G_aload_n (x := a0) (pc := 174) dX0_gather_174 rfl ?_
  refine G_getR (j := 8) (pc := 175) dX0_gather_175 rfl z_CLX0 (by decide) z_wX0_38 (by decide) (fun x36 => ?_)
  refine G_iload (x := x21) (pc := 178) dX0_gather_178 rfl ?_
  refine G_aload_n (x := a0) (pc := 180) dX0_gather_180 rfl ?_
  refine G_getR (j := 0) (pc := 181) dX0_gather_181 rfl z_CLX0 (by decide) z_wX0_41 (by decide) (fun x37 => ?_)
  refine G_getR (j := 8) (pc := 184) dX0_gather_184 rfl z_CLX10 (by decide) z_wX0_72 (by decide) (fun x38 => ?_)
  refine G_iload_n (x := a3) (pc := 187) dX0_gather_187 rfl ?_
  refine G_callVI (as := [vI a3]) (st := [vI x21, vR x36]) (c := 7) (bc2 := 0) (bs2 := 0) (pc := 188) dX0_gather_188 z_mX7_get z_vX7_get z_wX0_49 (gX7_get hst fu s35 x38 a3) rfl rfl (by decide) rfl rfl ⟨by decide, by decide, by decide, by decide, Nat.le_of_ble_eq_true rfl⟩ rfl (fun x40 s39 => ?_)
  refine G_callVN (as := [vI x21, vI x40]) (st := []) (c := 7) (bc2 := 0) (bs2 := 0) (pc := 191) dX0_gather_191 z_mX7_add z_vX7_add z_wX0_68 (gX7_add hst fu s39 x36 x21 x40) rfl rfl (by decide) rfl rfl ⟨by decide, by decide, by decide, by decide, Nat.le_of_ble_eq_true rfl⟩ rfl (fun s41 => ?_)
  refine G_bipush (pc := 194) dX0_gather_194 ?_
  refine G_aload_n (x := a0) (pc := 196) dX0_gather_196 rfl ?_
  refine G_getR (j := 7) (pc := 197) dX0_gather_197 rfl z_CLX0 (by decide) z_wX0_35 (by decide) (fun x42 => ?_)
  refine G_iload (x := x21) (pc := 200) dX0_gather_200 rfl ?_
  refine G_callVI (as := [vI x21]) (st := [vI 6]) (c := 7) (bc2 := 0) (bs2 := 0) (pc := 202) dX0_gather_202 z_mX7_get z_vX7_get z_wX0_49 (gX7_get hst fu s41 x42 x21) rfl rfl (by decide) rfl rfl ⟨by decide, by decide, by decide, by decide, Nat.le_of_ble_eq_true rfl⟩ rfl (fun x44 s43 => ?_)
  refine G_aload_n (x := a0) (pc := 205) dX0_gather_205 rfl ?_
  refine G_getR (j := 8) (pc := 206) dX0_gather_206 rfl z_CLX0 (by decide) z_wX0_38 (by decide) (fun x45 => ?_)
  refine G_iload (x := x21) (pc := 209) dX0_gather_209 rfl ?_
  refine G_callVI (as := [vI x21]) (st := [vI x44, vI 6]) (c := 7) (bc2 := 0) (bs2 := 0) (pc := 211) dX0_gather_211 z_mX7_get z_vX7_get z_wX0_49 (gX7_get hst fu s43 x45 x21) rfl rfl (by decide) rfl rfl ⟨by decide, by decide, by decide, by decide, Nat.le_of_ble_eq_true rfl⟩ rfl (fun x47 s46 => ?_)
  refine G_mmax (pc := 214) dX0_gather_214 z_wX0_73 (fun x48 => ?_) (Nat.le_of_ble_eq_true rfl)
  refine G_imul (pc := 217) dX0_gather_217 (fun x49 => ?_)
  refine G_istore (lv' := [vR a0, vI a1, vI a2, vI a3, vI x21, vI x49]) (pc := 218) dX0_gather_218 rfl ?_
  refine G_aload_n (x := a0) (pc := 220) dX0_gather_220 rfl ?_
  refine G_getR (j := 4) (pc := 221) dX0_gather_221 rfl z_CLX0 (by decide) z_wX0_26 (by decide) (fun x50 => ?_)
  refine G_iload (x := x21) (pc := 224) dX0_gather_224 rfl ?_
  refine G_iconst (pc := 226) dX0_gather_226 ?_
  refine G_iload (x := x49) (pc := 227) dX0_gather_227 rfl ?_
  refine G_aload_n (x := a0) (pc := 229) dX0_gather_229 rfl ?_
  refine G_getR (j := 3) (pc := 230) dX0_gather_230 rfl z_CLX0 (by decide) z_wX0_23 (by decide) (fun x51 => ?_)
  refine G_iload (x := x21) (pc := 233) dX0_gather_233 rfl ?_
  refine G_callVI (as := [vI x21]) (st := [vI x49, vI 0, vI x21, vR x50]) (c := 7) (bc2 := 0) (bs2 := 0) (pc := 235) dX0_gather_235 z_mX7_get z_vX7_get z_wX0_49 (gX7_get hst fu s46 x51 x21) rfl rfl (by decide) rfl rfl ⟨by decide, by decide, by decide, by decide, Nat.le_of_ble_eq_true rfl⟩ rfl (fun x53 s52 => ?_)
  refine G_isub (pc := 238) dX0_gather_238 (fun x54 => ?_)
  refine G_mmax (pc := 239) dX0_gather_239 z_wX0_73 (fun x55 => ?_) (Nat.le_of_ble_eq_true rfl)
  refine G_callVN (as := [vI x21, vI x55]) (st := []) (c := 7) (bc2 := 0) (bs2 := 0) (pc := 242) dX0_gather_242 z_mX7_put z_vX7_put z_wX0_61 (gX7_put hst fu s52 x50 x21 x55) rfl rfl (by decide) rfl rfl ⟨by decide, by decide, by decide, by decide, Nat.le_of_ble_eq_true rfl⟩ rfl (fun s56 => ?_)
  refine G_fg (lv2 := [vR a0, vI a1, vI a2, vI a3, vU, vU]) ⟨Or.inr rfl, Or.inr rfl, Or.inr rfl, Or.inr rfl, Or.inl rfl, Or.inl rfl, trivial⟩ ?_
  exact gX0_gather_J245 hst fu s56 a0 a1 a2 a3 _ _ (fun w v3 => hr w v3) hk
def fX0_gather_J58 (fu : Nat) (s : z_M) (a0 : Int) (a1 : Int) (a2 : Int) (a3 : Int) (r : z_M → Int → z_O) (k : z_M → z_O) : z_O := if z_ob a0 0 then z_let (z_gr a0 1) (fun x5 => if z_ob a0 0 then z_let (s a0 9) (fun x6 => if z_ob x5 7 then z_bN (fX7_put fu s x5 x6 a3) (fun s7 => if z_ob a0 0 then z_let (z_gr a0 3) (fun x8 => if z_ob a0 0 then z_let (s7 a0 9) (fun x9 => if z_ob x8 7 then z_bN (fX7_put fu s7 x8 x9 0) (fun s10 => if z_ob a0 0 then z_let (z_gr a0 7) (fun x11 => if z_ob a0 0 then z_let (s10 a0 9) (fun x12 => if z_ob x11 7 then z_bN (fX7_put fu s10 x11 x12 0) (fun s13 => if z_ob a0 0 then z_let (z_gr a0 8) (fun x14 => if z_ob a0 0 then z_let (s13 a0 9) (fun x15 => if z_ob x14 7 then z_bN (fX7_put fu s13 x14 x15 0) (fun s16 => if z_ob a0 0 then z_let (s16 a0 9) (fun x17 => z_let (z_w (x17 + 1)) (fun x18 => if z_ob a0 0 then z_let (z_up s16 a0 9 x18) (fun s19 => fX0_gather_J116 fu s19 a0 a1 a2 a3 (fun w v3 => r w v3) k) else none)) else none) else none) else none) else none) else none) else none) else none) else none) else none) else none) else none) else none) else none
theorem gX0_gather_J58 {l : Launch} {K : z_K} (hst : l.stackTraces = false) (fu : Nat) (s : z_M) (a0 : Int) (a1 : Int) (a2 : Int) (a3 : Int) (r : z_M → Int → z_O) (k : z_M → z_O) (hr : ∀ (s : z_M) (a3 : Int), G l K mX0_gather 1 22 0 0 2 [vR a0, vI a1, vI a2, vI a3, vU, vU] [] s (r s a3)) (hk : ∀ (s : z_M), G l K mX0_gather 1 22 0 0 251 [vU, vU, vU, vU, vU, vU] [] s (k s)) : G l K mX0_gather 1 22 0 0 58 [vR a0, vI a1, vI a2, vI a3, vU, vU] [] s (fX0_gather_J58 fu s a0 a1 a2 a3 r k) := by
  unfold fX0_gather_J58
  refine G_aload_n (x := a0) (pc := 58) dX0_gather_58 rfl ?_
  refine G_getR (j := 1) (pc := 59) dX0_gather_59 rfl z_CLX0 (by decide) z_wX0_14 (by decide) (fun x5 => ?_)
  refine G_aload_n (x := a0) (pc := 62) dX0_gather_62 rfl ?_
  refine G_getI (j := 9) (pc := 63) dX0_gather_63 rfl z_CLX0 (by decide) z_wX0_45 (by decide) (fun x6 => ?_)
  refine G_iload_n (x := a3) (pc := 66) dX0_gather_66 rfl ?_
  refine G_callVN (as := [vI x6, vI a3]) (st := []) (c := 7) (bc2 := 0) (bs2 := 0) (pc := 67) dX0_gather_67 z_mX7_put z_vX7_put z_wX0_61 (gX7_put hst fu s x5 x6 a3) rfl rfl (by decide) rfl rfl ⟨by decide, by decide, by decide, by decide, Nat.le_of_ble_eq_true rfl⟩ rfl (fun s7 => ?_)
  refine G_aload_n (x := a0) (pc := 70) dX0_gather_70 rfl ?_
  refine G_getR (j := 3) (pc := 71) dX0_gather_71 rfl z_CLX0 (by decide) z_wX0_23 (by decide) (fun x8 => ?_)
  refine G_aload_n (x := a0) (pc := 74) dX0_gather_74 rfl ?_
  refine G_getI (j := 9) (pc := 75) dX0_gather_75 rfl z_CLX0 (by decide) z_wX0_45 (by decide) (fun x9 => ?_)
  refine G_iconst (pc := 78) dX0_gather_78 ?_
  refine G_callVN (as := [vI x9, vI 0]) (st := []) (c := 7) (bc2 := 0) (bs2 := 0) (pc := 79) dX0_gather_79 z_mX7_put z_vX7_put z_wX0_61 (gX7_put hst fu s7 x8 x9 0) rfl rfl (by decide) rfl rfl ⟨by decide, by decide, by decide, by decide, Nat.le_of_ble_eq_true rfl⟩ rfl (fun s10 => ?_)
  refine G_aload_n (x := a0) (pc := 82) dX0_gather_82 rfl ?_
  refine G_getR (j := 7) (pc := 83) dX0_gather_83 rfl z_CLX0 (by decide) z_wX0_35 (by decide) (fun x11 => ?_)
  refine G_aload_n (x := a0) (pc := 86) dX0_gather_86 rfl ?_
  refine G_getI (j := 9) (pc := 87) dX0_gather_87 rfl z_CLX0 (by decide) z_wX0_45 (by decide) (fun x12 => ?_)
  refine G_iconst (pc := 90) dX0_gather_90 ?_
  refine G_callVN (as := [vI x12, vI 0]) (st := []) (c := 7) (bc2 := 0) (bs2 := 0) (pc := 91) dX0_gather_91 z_mX7_put z_vX7_put z_wX0_61 (gX7_put hst fu s10 x11 x12 0) rfl rfl (by decide) rfl rfl ⟨by decide, by decide, by decide, by decide, Nat.le_of_ble_eq_true rfl⟩ rfl (fun s13 => ?_)
  refine G_aload_n (x := a0) (pc := 94) dX0_gather_94 rfl ?_
  refine G_getR (j := 8) (pc := 95) dX0_gather_95 rfl z_CLX0 (by decide) z_wX0_38 (by decide) (fun x14 => ?_)
  refine G_aload_n (x := a0) (pc := 98) dX0_gather_98 rfl ?_
  refine G_getI (j := 9) (pc := 99) dX0_gather_99 rfl z_CLX0 (by decide) z_wX0_45 (by decide) (fun x15 => ?_)
  refine G_iconst (pc := 102) dX0_gather_102 ?_
  refine G_callVN (as := [vI x15, vI 0]) (st := []) (c := 7) (bc2 := 0) (bs2 := 0) (pc := 103) dX0_gather_103 z_mX7_put z_vX7_put z_wX0_61 (gX7_put hst fu s13 x14 x15 0) rfl rfl (by decide) rfl rfl ⟨by decide, by decide, by decide, by decide, Nat.le_of_ble_eq_true rfl⟩ rfl (fun s16 => ?_)
  refine G_aload_n (x := a0) (pc := 106) dX0_gather_106 rfl ?_
  refine G_dupR (pc := 107) dX0_gather_107 ?_
  refine G_getI (j := 9) (pc := 108) dX0_gather_108 rfl z_CLX0 (by decide) z_wX0_45 (by decide) (fun x17 => ?_)
  refine G_iconst (pc := 111) dX0_gather_111 ?_
  refine G_iadd (pc := 112) dX0_gather_112 (fun x18 => ?_)
  refine G_putI (j := 9) (pc := 113) dX0_gather_113 rfl z_CLX0 (by decide) z_wX0_45 rfl (by decide) (by decide) (fun s19 => ?_)
  exact gX0_gather_J116 hst fu s19 a0 a1 a2 a3 _ _ (fun w v3 => hr w v3) hk
def fX0_gather_L2 (fu : Nat) (a0 : Int) (a1 : Int) (a2 : Int) : Nat → z_M → Int → (z_M → z_O) → z_O
  | 0, _, _, _ => none
  | F + 1, s, a3, k => if (a2 : Int) < a3 then (k s) else (if z_ob a0 0 then z_let (z_gr a0 0) (fun x1 => if z_ob x1 10 then z_let (z_gr x1 2) (fun x2 => if z_ob x2 7 then z_bI (fX7_get fu s x2 a3) (fun x4 s3 => if (x4 : Int) = 7 then (if (a3 : Int) = a1 then (fX0_gather_J58 fu s3 a0 a1 a2 a3 (fun w v3 => fX0_gather_L2 fu a0 a1 a2 F w v3 k) k) else (if z_ob a0 0 then z_let (z_gr a0 0) (fun x58 => if z_ob x58 10 then z_let (z_gr x58 6) (fun x59 => z_let (z_w (a3 - 1)) (fun x60 => if z_ob x59 7 then z_bI (fX7_get fu s3 x59 x60) (fun x62 s61 => if z_ob a0 0 then z_let (z_gr a0 0) (fun x63 => if z_ob x63 10 then z_let (z_gr x63 6) (fun x64 => if z_ob x64 7 then z_bI (fX7_get fu s61 x64 a3) (fun x66 s65 => if (x62 : Int) = x66 then (fX0_gather_J116 fu s65 a0 a1 a2 a3 (fun w v3 => fX0_gather_L2 fu a0 a1 a2 F w v3 k) k) else (fX0_gather_J58 fu s65 a0 a1 a2 a3 (fun w v3 => fX0_gather_L2 fu a0 a1 a2 F w v3 k) k)) else none) else none) else none) else none)) else none) else none)) else (fX0_gather_J245 fu s3 a0 a1 a2 a3 (fun w v3 => fX0_gather_L2 fu a0 a1 a2 F w v3 k) k)) else none) else none) else none)
theorem gX0_gather_L2 {l : Launch} {K : z_K} (hst : l.stackTraces = false) (fu : Nat) (a0 : Int) (a1 : Int) (a2 : Int) (k : z_M → z_O) (hk : ∀ (s : z_M), G l K mX0_gather 1 22 0 0 251 [vU, vU, vU, vU, vU, vU] [] s (k s)) : ∀ (F : Nat) (s : z_M) (a3 : Int), G l K mX0_gather 1 22 0 0 2 [vR a0, vI a1, vI a2, vI a3, vU, vU] [] s (fX0_gather_L2 fu a0 a1 a2 F s a3 k) := by
  intro F
  induction F with
  | zero => exact fun s a3 h => absurd rfl h
  | succ F ih =>
    intro s a3
    rw [fX0_gather_L2]
    refine G_iload_n (x := a3) (pc := 2) dX0_gather_2 rfl ?_
    refine G_iload_n (x := a2) (pc := 3) dX0_gather_3 rfl ?_
    refine G_icmp_gt (tgt := 251) (pc := 4) dX0_gather_4 ?_ ?_
    · refine G_fg (lv2 := [vU, vU, vU, vU, vU, vU]) ⟨Or.inl rfl, Or.inl rfl, Or.inl rfl, Or.inl rfl, Or.inl rfl, Or.inl rfl, trivial⟩ ?_
      exact hk s
    · refine G_aload_n (x := a0) (pc := 7) dX0_gather_7 rfl ?_
      refine G_getR (j := 0) (pc := 8) dX0_gather_8 rfl z_CLX0 (by decide) z_wX0_41 (by decide) (fun x1 => ?_)
      refine G_getR (j := 2) (pc := 11) dX0_gather_11 rfl z_CLX10 (by decide) z_wX0_53 (by decide) (fun x2 => ?_)
      refine G_iload_n (x := a3) (pc := 14) dX0_gather_14 rfl ?_
      refine G_callVI (as := [vI a3]) (st := []) (c := 7) (bc2 := 0) (bs2 := 0) (pc := 15) dX0_gather_15 z_mX7_get z_vX7_get z_wX0_49 (gX7_get hst fu s x2 a3) rfl rfl (by decide) rfl rfl ⟨by decide, by decide, by decide, by decide, Nat.le_of_ble_eq_true rfl⟩ rfl (fun x4 s3 => ?_)
      refine G_bipush (pc := 18) dX0_gather_18 ?_
      refine G_icmp_eq (tgt := 26) (pc := 20) dX0_gather_20 ?_ ?_
      · refine G_iload_n (x := a3) (pc := 26) dX0_gather_26 rfl ?_
        refine G_iload_n (x := a1) (pc := 27) dX0_gather_27 rfl ?_
        refine G_icmp_eq (tgt := 58) (pc := 28) dX0_gather_28 ?_ ?_
        · exact gX0_gather_J58 hst fu s3 a0 a1 a2 a3 _ _ (fun w v3 => ih w v3) hk
        · refine G_aload_n (x := a0) (pc := 31) dX0_gather_31 rfl ?_
          refine G_getR (j := 0) (pc := 32) dX0_gather_32 rfl z_CLX0 (by decide) z_wX0_41 (by decide) (fun x58 => ?_)
          refine G_getR (j := 6) (pc := 35) dX0_gather_35 rfl z_CLX10 (by decide) z_wX0_58 (by decide) (fun x59 => ?_)
          refine G_iload_n (x := a3) (pc := 38) dX0_gather_38 rfl ?_
          refine G_iconst (pc := 39) dX0_gather_39 ?_
          refine G_isub (pc := 40) dX0_gather_40 (fun x60 => ?_)
          refine G_callVI (as := [vI x60]) (st := []) (c := 7) (bc2 := 0) (bs2 := 0) (pc := 41) dX0_gather_41 z_mX7_get z_vX7_get z_wX0_49 (gX7_get hst fu s3 x59 x60) rfl rfl (by decide) rfl rfl ⟨by decide, by decide, by decide, by decide, Nat.le_of_ble_eq_true rfl⟩ rfl (fun x62 s61 => ?_)
          refine G_aload_n (x := a0) (pc := 44) dX0_gather_44 rfl ?_
          refine G_getR (j := 0) (pc := 45) dX0_gather_45 rfl z_CLX0 (by decide) z_wX0_41 (by decide) (fun x63 => ?_)
          refine G_getR (j := 6) (pc := 48) dX0_gather_48 rfl z_CLX10 (by decide) z_wX0_58 (by decide) (fun x64 => ?_)
          refine G_iload_n (x := a3) (pc := 51) dX0_gather_51 rfl ?_
          refine G_callVI (as := [vI a3]) (st := [vI x62]) (c := 7) (bc2 := 0) (bs2 := 0) (pc := 52) dX0_gather_52 z_mX7_get z_vX7_get z_wX0_49 (gX7_get hst fu s61 x64 a3) rfl rfl (by decide) rfl rfl ⟨by decide, by decide, by decide, by decide, Nat.le_of_ble_eq_true rfl⟩ rfl (fun x66 s65 => ?_)
          refine G_icmp_eq (tgt := 116) (pc := 55) dX0_gather_55 ?_ ?_
          · exact gX0_gather_J116 hst fu s65 a0 a1 a2 a3 _ _ (fun w v3 => ih w v3) hk
          · exact gX0_gather_J58 hst fu s65 a0 a1 a2 a3 _ _ (fun w v3 => ih w v3) hk
      · refine G_goto (tgt := 245) (pc := 23) dX0_gather_23 ?_
        exact gX0_gather_J245 hst fu s3 a0 a1 a2 a3 _ _ (fun w v3 => ih w v3) hk
def fX0_gather (fu : Nat) (s : z_M) (a0 : Int) (a1 : Int) (a2 : Int) : z_O := fX0_gather_L2 fu a0 a1 a2 fu s a1 (fun s67 => some (vN, s67))
theorem gX0_gather {l : Launch} {K : z_K} (hst : l.stackTraces = false) (fu : Nat) (s : z_M) (a0 : Int) (a1 : Int) (a2 : Int) : z_D l K mX0_gather 1 22 0 0 [vR a0, vI a1, vI a2] s (fX0_gather fu s a0 a1 a2) := by
  refine z_D_of (lv := [vR a0, vI a1, vI a2, vU, vU, vU]) hst z_mX0_gather rfl ?_ (Nat.le_of_ble_eq_true rfl) rfl
  unfold fX0_gather
  refine G_iload_n (x := a1) (pc := 0) dX0_gather_0 rfl ?_
  refine G_istore_n (lv' := [vR a0, vI a1, vI a2, vI a1, vU, vU]) (pc := 1) dX0_gather_1 rfl ?_
  refine gX0_gather_L2 hst fu a0 a1 a2 _ (fun s67 => ?_) fu s a1
  exact G_vret (pc := 251) dX0_gather_251
def fX0_room_J58 (fu : Nat) (s : z_M) (t0 : Int) : z_O := some (vI t0, s)
theorem gX0_room_J58 {l : Launch} {K : z_K} (hst : l.stackTraces = false) (fu : Nat) (s : z_M) (t0 : Int) : G l K mX0_room 0 0 0 0 58 [vU, vU, vU] [vI t0] s (fX0_room_J58 fu s t0) := by
  unfold fX0_room_J58
  exact G_iret (pc := 58) dX0_room_58
def fX0_room_J69 (fu : Nat) (s : z_M) (t0 : Int) : z_O := some (vI t0, s)
theorem gX0_room_J69 {l : Launch} {K : z_K} (hst : l.stackTraces = false) (fu : Nat) (s : z_M) (t0 : Int) : G l K mX0_room 0 0 0 0 69 [vU, vU, vU] [vI t0] s (fX0_room_J69 fu s t0) := by
  unfold fX0_room_J69
  exact G_iret (pc := 69) dX0_room_69
def fX0_room (fu : Nat) (s : z_M) (a0 : Int) (a1 : Int) (a2 : Int) : z_O := if a0 = (0 : Int) then (some (vI a1, s)) else (if a0 = (1 : Int) then (some (vI a1, s)) else (if a0 = (2 : Int) then (some (vI a1, s)) else (if a0 = (3 : Int) then (if (a2 : Int) = 0 then (fX0_room_J58 fu s 0) else (fX0_room_J58 fu s 6)) else (if a0 = (4 : Int) then (if (a2 : Int) = 0 then (fX0_room_J69 fu s 6) else (fX0_room_J69 fu s 0)) else (if a0 = (5 : Int) then (if (a2 : Int) = 0 then (fX0_room_J58 fu s 0) else (fX0_room_J58 fu s 6)) else (if a0 = (6 : Int) then (some (vI 4, s)) else (some (vI 0, s))))))))
theorem gX0_room {l : Launch} {K : z_K} (hst : l.stackTraces = false) (fu : Nat) (s : z_M) (a0 : Int) (a1 : Int) (a2 : Int) : z_D l K mX0_room 0 0 0 0 [vI a0, vI a1, vI a2] s (fX0_room fu s a0 a1 a2) := by
  refine z_D_of (lv := [vI a0, vI a1, vI a2]) hst z_mX0_room rfl ?_ (Nat.le_of_ble_eq_true rfl) rfl
  unfold fX0_room
  refine G_iload_n (x := a0) (pc := 0) dX0_room_0 rfl ?_
  refine G_ite (fun h0 => ?_) (fun h0 => ?_)
  · refine G_tableIn (off := 43) (tgt := 44) (pc := 1) dX0_room_1 (by omega) (by rw [h0]; rfl) (by decide) ?_
    refine G_iload_n (x := a1) (pc := 44) dX0_room_44 rfl ?_
    exact G_iret (pc := 45) dX0_room_45
  · refine G_ite (fun h1 => ?_) (fun h1 => ?_)
    · refine G_tableIn (off := 43) (tgt := 44) (pc := 1) dX0_room_1 (by omega) (by rw [h1]; rfl) (by decide) ?_
      refine G_iload_n (x := a1) (pc := 44) dX0_room_44 rfl ?_
      exact G_iret (pc := 45) dX0_room_45
    · refine G_ite (fun h2 => ?_) (fun h2 => ?_)
      · refine G_tableIn (off := 43) (tgt := 44) (pc := 1) dX0_room_1 (by omega) (by rw [h2]; rfl) (by decide) ?_
        refine G_iload_n (x := a1) (pc := 44) dX0_room_44 rfl ?_
        exact G_iret (pc := 45) dX0_room_45
      · refine G_ite (fun h3 => ?_) (fun h3 => ?_)
        · refine G_tableIn (off := 47) (tgt := 48) (pc := 1) dX0_room_1 (by omega) (by rw [h3]; rfl) (by decide) ?_
          refine G_iload_n (x := a2) (pc := 48) dX0_room_48 rfl ?_
          refine G_if_eq (tgt := 57) (pc := 49) dX0_room_49 ?_ ?_
          · refine G_iconst (pc := 57) dX0_room_57 ?_
            refine G_fg (lv2 := [vU, vU, vU]) ⟨Or.inl rfl, Or.inl rfl, Or.inl rfl, trivial⟩ ?_
            exact gX0_room_J58 hst fu s 0
          · refine G_bipush (pc := 52) dX0_room_52 ?_
            refine G_goto (tgt := 58) (pc := 54) dX0_room_54 ?_
            refine G_fg (lv2 := [vU, vU, vU]) ⟨Or.inl rfl, Or.inl rfl, Or.inl rfl, trivial⟩ ?_
            exact gX0_room_J58 hst fu s 6
        · refine G_ite (fun h4 => ?_) (fun h4 => ?_)
          · refine G_tableIn (off := 58) (tgt := 59) (pc := 1) dX0_room_1 (by omega) (by rw [h4]; rfl) (by decide) ?_
            refine G_iload_n (x := a2) (pc := 59) dX0_room_59 rfl ?_
            refine G_if_eq (tgt := 67) (pc := 60) dX0_room_60 ?_ ?_
            · refine G_bipush (pc := 67) dX0_room_67 ?_
              refine G_fg (lv2 := [vU, vU, vU]) ⟨Or.inl rfl, Or.inl rfl, Or.inl rfl, trivial⟩ ?_
              exact gX0_room_J69 hst fu s 6
            · refine G_iconst (pc := 63) dX0_room_63 ?_
              refine G_goto (tgt := 69) (pc := 64) dX0_room_64 ?_
              refine G_fg (lv2 := [vU, vU, vU]) ⟨Or.inl rfl, Or.inl rfl, Or.inl rfl, trivial⟩ ?_
              exact gX0_room_J69 hst fu s 0
          · refine G_ite (fun h5 => ?_) (fun h5 => ?_)
            · refine G_tableIn (off := 47) (tgt := 48) (pc := 1) dX0_room_1 (by omega) (by rw [h5]; rfl) (by decide) ?_
              refine G_iload_n (x := a2) (pc := 48) dX0_room_48 rfl ?_
              refine G_if_eq (tgt := 57) (pc := 49) dX0_room_49 ?_ ?_
              · refine G_iconst (pc := 57) dX0_room_57 ?_
                refine G_fg (lv2 := [vU, vU, vU]) ⟨Or.inl rfl, Or.inl rfl, Or.inl rfl, trivial⟩ ?_
                exact gX0_room_J58 hst fu s 0
              · refine G_bipush (pc := 52) dX0_room_52 ?_
                refine G_goto (tgt := 58) (pc := 54) dX0_room_54 ?_
                refine G_fg (lv2 := [vU, vU, vU]) ⟨Or.inl rfl, Or.inl rfl, Or.inl rfl, trivial⟩ ?_
                exact gX0_room_J58 hst fu s 6
            · refine G_ite (fun h6 => ?_) (fun h6 => ?_)
              · refine G_tableIn (off := 45) (tgt := 46) (pc := 1) dX0_room_1 (by omega) (by rw [h6]; rfl) (by decide) ?_
                refine G_iconst (pc := 46) dX0_room_46 ?_
                exact G_iret (pc := 47) dX0_room_47
              · refine G_tableOut (tgt := 70) (pc := 1) dX0_room_1 (by omega) ?_
                refine G_iconst (pc := 70) dX0_room_70 ?_
                exact G_iret (pc := 71) dX0_room_71
def fX0_hang_J229 (fu : Nat) (s : z_M) (a0 : Int) (a1 : Int) (a3 : Int) (a4 : Int) (a5 : Int) (a6 : Int) (a7 : Int) (a9 : Int) (a10 : Int) (a11 : Int) (r : z_M → Int → Int → z_O) (k : z_M → Int → z_O) : z_O := if z_ob a0 0 then z_let (z_gr a0 5) (fun x12 => if 2 ≠ 0 then z_let (z_w (Int.tdiv a9 2)) (fun x13 => z_let (z_min x13 a10) (fun x14 => if z_ob x12 7 then z_bN (fX7_put fu s x12 a7 x14) (fun s15 => if z_ob a0 0 then z_let (z_gr a0 6) (fun x16 => if 2 ≠ 0 then z_let (z_w (Int.tdiv a9 2)) (fun x17 => z_let (z_w (a9 - x17)) (fun x18 => z_let (z_min x18 a11) (fun x19 => if z_ob x16 7 then z_bN (fX7_put fu s15 x16 a7 x19) (fun s20 => if z_ob a0 0 then z_let (z_gr a0 5) (fun x21 => if z_ob x21 7 then z_bI (fX7_get fu s20 x21 a7) (fun x23 s22 => z_let (z_w (a9 - x23)) (fun x24 => if z_ob a0 0 then z_let (z_gr a0 6) (fun x25 => if z_ob x25 7 then z_bI (fX7_get fu s22 x25 a7) (fun x27 s26 => z_let (z_w (x24 - x27)) (fun x28 => z_let (z_w (a5 + x28)) (fun x29 => z_let (z_w (a7 + 1)) (fun x30 => r s26 x29 x30)))) else none) else none)) else none) else none) else none))) else none) else none) else none)) else none) else none
theorem gX0_hang_J229 {l : Launch} {K : z_K} (hst : l.stackTraces = false) (fu : Nat) (s : z_M) (a0 : Int) (a1 : Int) (a3 : Int) (a4 : Int) (a5 : Int) (a6 : Int) (a7 : Int) (a9 : Int) (a10 : Int) (a11 : Int) (r : z_M → Int → Int → z_O) (k : z_M → Int → z_O) (hr : ∀ (s : z_M) (a5 : Int) (a7 : Int), G l K mX0_hang 1 22 0 0 9 [vR a0, vI a1, vU, vI a3, vI a4, vI a5, vI a6, vI a7, vU, vU, vU, vU] [] s (r s a5 a7)) (hk : ∀ (s : z_M) (a5 : Int), G l K mX0_hang 1 22 0 0 301 [vU, vU, vU, vU, vU, vI a5, vU, vU, vU, vU, vU, vU] [] s (k s a5)) : G l K mX0_hang 1 22 0 0 229 [vR a0, vI a1, vU, vI a3, vI a4, vI a5, vI a6, vI a7, vU, vI a9, vI a10, vI a11] [] s (fX0_hang_J229 fu s a0 a1 a3 a4 a5 a6 a7 a9 a10 a11 r k) := by
  unfold fX0_hang_J229
  refine G_aload_n (x := a0) (pc := 229) dX0_hang_229 rfl ?_
  refine G_getR (j := 5) (pc := 230) dX0_hang_230 rfl z_CLX0 (by decide) z_wX0_29 (by decide) (fun x12 => ?_)
  refine G_iload (x := a7) (pc := 233) dX0_hang_233 rfl ?_
  refine G_iload (x := a9) (pc := 235) dX0_hang_235 rfl ?_
  refine G_iconst (pc := 237) dX0_hang_237 ?_
  refine G_idiv (pc := 238) dX0_hang_238 (fun x13 => ?_)
  refine G_iload (x := a10) (pc := 239) dX0_hang_239 rfl ?_
  refine G_mmin (pc := 241) dX0_hang_241 z_wX0_83 (fun x14 => ?_) (Nat.le_of_ble_eq_true rfl)
  refine G_callVN (as := [vI a7, vI x14]) (st := []) (c := 7) (bc2 := 0) (bs2 := 0) (pc := 244) dX0_hang_244 z_mX7_put z_vX7_put z_wX0_61 (gX7_put hst fu s x12 a7 x14) rfl rfl (by decide) rfl rfl ⟨by decide, by decide, by decide, by decide, Nat.le_of_ble_eq_true rfl⟩ rfl (fun s15 => ?_)
  refine G_aload_n (x := a0) (pc := 247) dX0_hang_247 rfl ?_
  refine G_getR (j := 6) (pc := 248) dX0_hang_248 rfl z_CLX0 (by decide) z_wX0_32 (by decide) (fun x16 => ?_)
  refine G_iload (x := a7) (pc := 251) dX0_hang_251 rfl ?_
  refine G_iload (x := a9) (pc := 253) dX0_hang_253 rfl ?_
  refine G_iload (x := a9) (pc := 255) dX0_hang_255 rfl ?_
  refine G_iconst (pc := 257) dX0_hang_257 ?_
  refine G_idiv (pc := 258) dX0_hang_258 (fun x17 => ?_)
  refine G_isub (pc := 259) dX0_hang_259 (fun x18 => ?_)
  refine G_iload (x := a11) (pc := 260) dX0_hang_260 rfl ?_
  refine G_mmin (pc := 262) dX0_hang_262 z_wX0_83 (fun x19 => ?_) (Nat.le_of_ble_eq_true rfl)
  refine G_callVN (as := [vI a7, vI x19]) (st := []) (c := 7) (bc2 := 0) (bs2 := 0) (pc := 265) dX0_hang_265 z_mX7_put z_vX7_put z_wX0_61 (gX7_put hst fu s15 x16 a7 x19) rfl rfl (by decide) rfl rfl ⟨by decide, by decide, by decide, by decide, Nat.le_of_ble_eq_true rfl⟩ rfl (fun s20 => ?_)
  refine G_iload (x := a5) (pc := 268) dX0_hang_268 rfl ?_
  refine G_iload (x := a9) (pc := 270) dX0_hang_270 rfl ?_
  refine G_aload_n (x := a0) (pc := 272) dX0_hang_272 rfl ?_
  refine G_getR (j := 5) (pc := 273) dX0_hang_273 rfl z_CLX0 (by decide) z_wX0_29 (by decide) (fun x21 => ?_)
  refine G_iload (x := a7) (pc := 276) dX0_hang_276 rfl ?_
  refine G_callVI (as := [vI a7]) (st := [vI a9, vI a5]) (c := 7) (bc2 := 0) (bs2 := 0) (pc := 278) dX0_hang_278 z_mX7_get z_vX7_get z_wX0_49 (gX7_get hst fu s20 x21 a7) rfl rfl (by decide) rfl rfl ⟨by decide, by decide, by decide, by decide, Nat.le_of_ble_eq_true rfl⟩ rfl (fun x23 s22 => ?_)
  refine G_isub (pc := 281) dX0_hang_281 (fun x24 => ?_)
  refine G_aload_n (x := a0) (pc := 282) dX0_hang_282 rfl ?_
  refine G_getR (j := 6) (pc := 283) dX0_hang_283 rfl z_CLX0 (by decide) z_wX0_32 (by decide) (fun x25 => ?_)
  refine G_iload (x := a7) (pc := 286) dX0_hang_286 rfl ?_
  refine G_callVI (as := [vI a7]) (st := [vI x24, vI a5]) (c := 7) (bc2 := 0) (bs2 := 0) (pc := 288) dX0_hang_288 z_mX7_get z_vX7_get z_wX0_49 (gX7_get hst fu s22 x25 a7) rfl rfl (by decide) rfl rfl ⟨by decide, by decide, by decide, by decide, Nat.le_of_ble_eq_true rfl⟩ rfl (fun x27 s26 => ?_)
  refine G_isub (pc := 291) dX0_hang_291 (fun x28 => ?_)
  refine G_iadd (pc := 292) dX0_hang_292 (fun x29 => ?_)
  refine G_istore (lv' := [vR a0, vI a1, vU, vI a3, vI a4, vI x29, vI a6, vI a7, vU, vI a9, vI a10, vI a11]) (pc := 293) dX0_hang_293 rfl ?_
  refine G_iinc (x := a7) (g := fun x30 => [vR a0, vI a1, vU, vI a3, vI a4, vI x29, vI a6, vI x30, vU, vI a9, vI a10, vI a11]) (pc := 295) dX0_hang_295 rfl (fun _ => rfl) (fun x30 => ?_)
  refine G_goto (tgt := 9) (pc := 298) dX0_hang_298 ?_
  refine G_fg (lv2 := [vR a0, vI a1, vU, vI a3, vI a4, vI x29, vI a6, vI x30, vU, vU, vU, vU]) ⟨Or.inr rfl, Or.inr rfl, Or.inl rfl, Or.inr rfl, Or.inr rfl, Or.inr rfl, Or.inr rfl, Or.inr rfl, Or.inl rfl, Or.inl rfl, Or.inl rfl, Or.inl rfl, trivial⟩ ?_
  exact hr s26 x29 x30
def fX0_hang_J175 (fu : Nat) (s : z_M) (a0 : Int) (a1 : Int) (a3 : Int) (a4 : Int) (a5 : Int) (a6 : Int) (a7 : Int) (a8 : Int) (a9 : Int) (a10 : Int) (a11 : Int) (r : z_M → Int → Int → z_O) (k : z_M → Int → z_O) : z_O := if (a9 : Int) ≤ 0 then (fX0_hang_J229 fu s a0 a1 a3 a4 a5 a6 a7 a9 a10 a11 (fun w v5 v7 => r w v5 v7) k) else (z_let (z_w (a7 + 1)) (fun x31 => if z_ob a0 0 then z_let (s a0 9) (fun x32 => if (x32 : Int) ≤ x31 then (fX0_hang_J229 fu s a0 a1 a3 a4 a5 a6 a7 a9 a10 a11 (fun w v5 v7 => r w v5 v7) k) else (if z_ob a0 0 then z_let (z_gr a0 1) (fun x33 => z_let (z_w (a7 + 1)) (fun x34 => if z_ob x33 7 then z_bI (fX7_get fu s x33 x34) (fun x36 s35 => z_let (z_w (a8 + 1)) (fun x37 => if (x36 : Int) ≠ x37 then (fX0_hang_J229 fu s35 a0 a1 a3 a4 a5 a6 a7 a9 a10 a11 (fun w v5 v7 => r w v5 v7) k) else (if z_ob a0 0 then z_let (z_gr a0 4) (fun x38 => z_let (z_w (a7 + 1)) (fun x39 => if z_ob x38 7 then z_bI (fX7_get fu s35 x38 x39) (fun x41 s40 => if (x41 : Int) ≤ 0 then (fX0_hang_J229 fu s40 a0 a1 a3 a4 a5 a6 a7 a9 a10 a11 (fun w v5 v7 => r w v5 v7) k) else (if 2 ≠ 0 then z_let (z_w (Int.tdiv a11 2)) (fun x42 => fX0_hang_J229 fu s40 a0 a1 a3 a4 a5 a6 a7 a9 a10 x42 (fun w v5 v7 => r w v5 v7) k) else none)) else none)) else none))) else none)) else none)) else none))
theorem gX0_hang_J175 {l : Launch} {K : z_K} (hst : l.stackTraces = false) (fu : Nat) (s : z_M) (a0 : Int) (a1 : Int) (a3 : Int) (a4 : Int) (a5 : Int) (a6 : Int) (a7 : Int) (a8 : Int) (a9 : Int) (a10 : Int) (a11 : Int) (r : z_M → Int → Int → z_O) (k : z_M → Int → z_O) (hr : ∀ (s : z_M) (a5 : Int) (a7 : Int), G l K mX0_hang 1 22 0 0 9 [vR a0, vI a1, vU, vI a3, vI a4, vI a5, vI a6, vI a7, vU, vU, vU, vU] [] s (r s a5 a7)) (hk : ∀ (s : z_M) (a5 : Int), G l K mX0_hang 1 22 0 0 301 [vU, vU, vU, vU, vU, vI a5, vU, vU, vU, vU, vU, vU] [] s (k s a5)) : G l K mX0_hang 1 22 0 0 175 [vR a0, vI a1, vU, vI a3, vI a4, vI a5, vI a6, vI a7, vI a8, vI a9, vI a10, vI a11] [] s (fX0_hang_J175 fu s a0 a1 a3 a4 a5 a6 a7 a8 a9 a10 a11 r k) := by
  unfold fX0_hang_J175
  refine G_iload (x := a9) (pc := 175) dX0_hang_175 rfl ?_
  refine G_if_le (tgt := 229) (pc := 177) dX0_hang_177 ?_ ?_
  · refine G_fg (lv2 := [vR a0, vI a1, vU, vI a3, vI a4, vI a5, vI a6, vI a7, vU, vI a9, vI a10, vI a11]) ⟨Or.inr rfl, Or.inr rfl, Or.inl rfl, Or.inr rfl, Or.inr rfl, Or.inr rfl, Or.inr rfl, Or.inr rfl, Or.inl rfl, Or.inr rfl, Or.inr rfl, Or.inr rfl, trivial⟩ ?_
    exact gX0_hang_J229 hst fu s a0 a1 a3 a4 a5 a6 a7 a9 a10 a11 _ _ (fun w v5 v7 => hr w v5 v7) hk
  · refine G_iload (x := a7) (pc := 180) dX0_hang_180 rfl ?_
    refine G_iconst (pc := 182) dX0_hang_182 ?_
    refine G_iadd (pc := 183) dX0_hang_183 (fun x31 => ?_)
    refine G_aload_n (x := a0) (pc := 184) dX0_hang_184 rfl ?_
    refine G_getI (j := 9) (pc := 185) dX0_hang_185 rfl z_CLX0 (by decide) z_wX0_45 (by decide) (fun x32 => ?_)
    refine G_icmp_ge (tgt := 229) (pc := 188) dX0_hang_188 ?_ ?_
    · refine G_fg (lv2 := [vR a0, vI a1, vU, vI a3, vI a4, vI a5, vI a6, vI a7, vU, vI a9, vI a10, vI a11]) ⟨Or.inr rfl, Or.inr rfl, Or.inl rfl, Or.inr rfl, Or.inr rfl, Or.inr rfl, Or.inr rfl, Or.inr rfl, Or.inl rfl, Or.inr rfl, Or.inr rfl, Or.inr rfl, trivial⟩ ?_
      exact gX0_hang_J229 hst fu s a0 a1 a3 a4 a5 a6 a7 a9 a10 a11 _ _ (fun w v5 v7 => hr w v5 v7) hk
    · refine G_aload_n (x := a0) (pc := 191) dX0_hang_191 rfl ?_
      refine G_getR (j := 1) (pc := 192) dX0_hang_192 rfl z_CLX0 (by decide) z_wX0_14 (by decide) (fun x33 => ?_)
      refine G_iload (x := a7) (pc := 195) dX0_hang_195 rfl ?_
      refine G_iconst (pc := 197) dX0_hang_197 ?_
      refine G_iadd (pc := 198) dX0_hang_198 (fun x34 => ?_)
      refine G_callVI (as := [vI x34]) (st := []) (c := 7) (bc2 := 0) (bs2 := 0) (pc := 199) dX0_hang_199 z_mX7_get z_vX7_get z_wX0_49 (gX7_get hst fu s x33 x34) rfl rfl (by decide) rfl rfl ⟨by decide, by decide, by decide, by decide, Nat.le_of_ble_eq_true rfl⟩ rfl (fun x36 s35 => ?_)
      refine G_iload (x := a8) (pc := 202) dX0_hang_202 rfl ?_
      refine G_iconst (pc := 204) dX0_hang_204 ?_
      refine G_iadd (pc := 205) dX0_hang_205 (fun x37 => ?_)
      refine G_icmp_ne (tgt := 229) (pc := 206) dX0_hang_206 ?_ ?_
      · refine G_fg (lv2 := [vR a0, vI a1, vU, vI a3, vI a4, vI a5, vI a6, vI a7, vU, vI a9, vI a10, vI a11]) ⟨Or.inr rfl, Or.inr rfl, Or.inl rfl, Or.inr rfl, Or.inr rfl, Or.inr rfl, Or.inr rfl, Or.inr rfl, Or.inl rfl, Or.inr rfl, Or.inr rfl, Or.inr rfl, trivial⟩ ?_
        exact gX0_hang_J229 hst fu s35 a0 a1 a3 a4 a5 a6 a7 a9 a10 a11 _ _ (fun w v5 v7 => hr w v5 v7) hk
      · refine G_aload_n (x := a0) (pc := 209) dX0_hang_209 rfl ?_
        refine G_getR (j := 4) (pc := 210) dX0_hang_210 rfl z_CLX0 (by decide) z_wX0_26 (by decide) (fun x38 => ?_)
        refine G_iload (x := a7) (pc := 213) dX0_hang_213 rfl ?_
        refine G_iconst (pc := 215) dX0_hang_215 ?_
        refine G_iadd (pc := 216) dX0_hang_216 (fun x39 => ?_)
        refine G_callVI (as := [vI x39]) (st := []) (c := 7) (bc2 := 0) (bs2 := 0) (pc := 217) dX0_hang_217 z_mX7_get z_vX7_get z_wX0_49 (gX7_get hst fu s35 x38 x39) rfl rfl (by decide) rfl rfl ⟨by decide, by decide, by decide, by decide, Nat.le_of_ble_eq_true rfl⟩ rfl (fun x41 s40 => ?_)
        refine G_if_le (tgt := 229) (pc := 220) dX0_hang_220 ?_ ?_
        · refine G_fg (lv2 := [vR a0, vI a1, vU, vI a3, vI a4, vI a5, vI a6, vI a7, vU, vI a9, vI a10, vI a11]) ⟨Or.inr rfl, Or.inr rfl, Or.inl rfl, Or.inr rfl, Or.inr rfl, Or.inr rfl, Or.inr rfl, Or.inr rfl, Or.inl rfl, Or.inr rfl, Or.inr rfl, Or.inr rfl, trivial⟩ ?_
          exact gX0_hang_J229 hst fu s40 a0 a1 a3 a4 a5 a6 a7 a9 a10 a11 _ _ (fun w v5 v7 => hr w v5 v7) hk
        · refine G_iload (x := a11) (pc := 223) dX0_hang_223 rfl ?_
          refine G_iconst (pc := 225) dX0_hang_225 ?_
          refine G_idiv (pc := 226) dX0_hang_226 (fun x42 => ?_)
          refine G_istore (lv' := [vR a0, vI a1, vU, vI a3, vI a4, vI a5, vI a6, vI a7, vI a8, vI a9, vI a10, vI x42]) (pc := 227) dX0_hang_227 rfl ?_
          refine G_fg (lv2 := [vR a0, vI a1, vU, vI a3, vI a4, vI a5, vI a6, vI a7, vU, vI a9, vI a10, vI x42]) ⟨Or.inr rfl, Or.inr rfl, Or.inl rfl, Or.inr rfl, Or.inr rfl, Or.inr rfl, Or.inr rfl, Or.inr rfl, Or.inl rfl, Or.inr rfl, Or.inr rfl, Or.inr rfl, trivial⟩ ?_
          exact gX0_hang_J229 hst fu s40 a0 a1 a3 a4 a5 a6 a7 a9 a10 x42 _ _ (fun w v5 v7 => hr w v5 v7) hk
def fX0_hang_J117 (fu : Nat) (s : z_M) (a0 : Int) (a1 : Int) (a3 : Int) (a4 : Int) (a5 : Int) (a6 : Int) (a7 : Int) (a8 : Int) (a9 : Int) (a10 : Int) (t0 : Int) (r : z_M → Int → Int → z_O) (k : z_M → Int → z_O) : z_O := if (a9 : Int) ≤ 0 then (fX0_hang_J175 fu s a0 a1 a3 a4 a5 a6 a7 a8 a9 a10 t0 (fun w v5 v7 => r w v5 v7) k) else (if (a7 : Int) ≤ a1 then (fX0_hang_J175 fu s a0 a1 a3 a4 a5 a6 a7 a8 a9 a10 t0 (fun w v5 v7 => r w v5 v7) k) else (if z_ob a0 0 then z_let (z_gr a0 2) (fun x43 => z_let (z_w (a7 - 1)) (fun x44 => if z_ob x43 7 then z_bI (fX7_get fu s x43 x44) (fun x46 s45 => z_let (z_w (x46 + 2)) (fun x47 => if z_ob a0 0 then z_let (z_gr a0 1) (fun x48 => if z_ob x48 7 then z_bI (fX7_get fu s45 x48 a7) (fun x50 s49 => if (x47 : Int) ≠ x50 then (fX0_hang_J175 fu s49 a0 a1 a3 a4 a5 a6 a7 a8 a9 a10 t0 (fun w v5 v7 => r w v5 v7) k) else (if z_ob a0 0 then z_let (z_gr a0 4) (fun x51 => z_let (z_w (a7 - 1)) (fun x52 => if z_ob x51 7 then z_bI (fX7_get fu s49 x51 x52) (fun x54 s53 => if (x54 : Int) ≤ 0 then (fX0_hang_J175 fu s53 a0 a1 a3 a4 a5 a6 a7 a8 a9 a10 t0 (fun w v5 v7 => r w v5 v7) k) else (if 2 ≠ 0 then z_let (z_w (Int.tdiv a10 2)) (fun x55 => fX0_hang_J175 fu s53 a0 a1 a3 a4 a5 a6 a7 a8 a9 x55 t0 (fun w v5 v7 => r w v5 v7) k) else none)) else none)) else none)) else none) else none)) else none)) else none))
theorem gX0_hang_J117 {l : Launch} {K : z_K} (hst : l.stackTraces = false) (fu : Nat) (s : z_M) (a0 : Int) (a1 : Int) (a3 : Int) (a4 : Int) (a5 : Int) (a6 : Int) (a7 : Int) (a8 : Int) (a9 : Int) (a10 : Int) (t0 : Int) (r : z_M → Int → Int → z_O) (k : z_M → Int → z_O) (hr : ∀ (s : z_M) (a5 : Int) (a7 : Int), G l K mX0_hang 1 22 0 0 9 [vR a0, vI a1, vU, vI a3, vI a4, vI a5, vI a6, vI a7, vU, vU, vU, vU] [] s (r s a5 a7)) (hk : ∀ (s : z_M) (a5 : Int), G l K mX0_hang 1 22 0 0 301 [vU, vU, vU, vU, vU, vI a5, vU, vU, vU, vU, vU, vU] [] s (k s a5)) : G l K mX0_hang 1 22 0 0 117 [vR a0, vI a1, vU, vI a3, vI a4, vI a5, vI a6, vI a7, vI a8, vI a9, vI a10, vU] [vI t0] s (fX0_hang_J117 fu s a0 a1 a3 a4 a5 a6 a7 a8 a9 a10 t0 r k) := by
  unfold fX0_hang_J117
  refine G_istore (lv' := [vR a0, vI a1, vU, vI a3, vI a4, vI a5, vI a6, vI a7, vI a8, vI a9, vI a10, vI t0]) (pc := 117) dX0_hang_117 rfl ?_
  refine G_iload (x := a9) (pc := 119) dX0_hang_119 rfl ?_
  refine G_if_le (tgt := 175) (pc := 121) dX0_hang_121 ?_ ?_
  · exact gX0_hang_J175 hst fu s a0 a1 a3 a4 a5 a6 a7 a8 a9 a10 t0 _ _ (fun w v5 v7 => hr w v5 v7) hk
  · refine G_iload (x := a7) (pc := 124) dX0_hang_124 rfl ?_
    refine G_iload_n (x := a1) (pc := 126) dX0_hang_126 rfl ?_
    refine G_icmp_le (tgt := 175) (pc := 127) dX0_hang_127 ?_ ?_
    · exact gX0_hang_J175 hst fu s a0 a1 a3 a4 a5 a6 a7 a8 a9 a10 t0 _ _ (fun w v5 v7 => hr w v5 v7) hk
    · refine G_aload_n (x := a0) (pc := 130) dX0_hang_130 rfl ?_
      refine G_getR (j := 2) (pc := 131) dX0_hang_131 rfl z_CLX0 (by decide) z_wX0_20 (by decide) (fun x43 => ?_)
      refine G_iload (x := a7) (pc := 134) dX0_hang_134 rfl ?_
      refine G_iconst (pc := 136) dX0_hang_136 ?_
      refine G_isub (pc := 137) dX0_hang_137 (fun x44 => ?_)
      refine G_callVI (as := [vI x44]) (st := []) (c := 7) (bc2 := 0) (bs2 := 0) (pc := 138) dX0_hang_138 z_mX7_get z_vX7_get z_wX0_49 (gX7_get hst fu s x43 x44) rfl rfl (by decide) rfl rfl ⟨by decide, by decide, by decide, by decide, Nat.le_of_ble_eq_true rfl⟩ rfl (fun x46 s45 => ?_)
      refine G_iconst (pc := 141) dX0_hang_141 ?_
      refine G_iadd (pc := 142) dX0_hang_142 (fun x47 => ?_)
      refine G_aload_n (x := a0) (pc := 143) dX0_hang_143 rfl ?_
      refine G_getR (j := 1) (pc := 144) dX0_hang_144 rfl z_CLX0 (by decide) z_wX0_14 (by decide) (fun x48 => ?_)
      refine G_iload (x := a7) (pc := 147) dX0_hang_147 rfl ?_
      refine G_callVI (as := [vI a7]) (st := [vI x47]) (c := 7) (bc2 := 0) (bs2 := 0) (pc := 149) dX0_hang_149 z_mX7_get z_vX7_get z_wX0_49 (gX7_get hst fu s45 x48 a7) rfl rfl (by decide) rfl rfl ⟨by decide, by decide, by decide, by decide, Nat.le_of_ble_eq_true rfl⟩ rfl (fun x50 s49 => ?_)
      refine G_icmp_ne (tgt := 175) (pc := 152) dX0_hang_152 ?_ ?_
      · exact gX0_hang_J175 hst fu s49 a0 a1 a3 a4 a5 a6 a7 a8 a9 a10 t0 _ _ (fun w v5 v7 => hr w v5 v7) hk
      · refine G_aload_n (x := a0) (pc := 155) dX0_hang_155 rfl ?_
        refine G_getR (j := 4) (pc := 156) dX0_hang_156 rfl z_CLX0 (by decide) z_wX0_26 (by decide) (fun x51 => ?_)
        refine G_iload (x := a7) (pc := 159) dX0_hang_159 rfl ?_
        refine G_iconst (pc := 161) dX0_hang_161 ?_
        refine G_isub (pc := 162) dX0_hang_162 (fun x52 => ?_)
        refine G_callVI (as := [vI x52]) (st := []) (c := 7) (bc2 := 0) (bs2 := 0) (pc := 163) dX0_hang_163 z_mX7_get z_vX7_get z_wX0_49 (gX7_get hst fu s49 x51 x52) rfl rfl (by decide) rfl rfl ⟨by decide, by decide, by decide, by decide, Nat.le_of_ble_eq_true rfl⟩ rfl (fun x54 s53 => ?_)
        refine G_if_le (tgt := 175) (pc := 166) dX0_hang_166 ?_ ?_
        · exact gX0_hang_J175 hst fu s53 a0 a1 a3 a4 a5 a6 a7 a8 a9 a10 t0 _ _ (fun w v5 v7 => hr w v5 v7) hk
        · refine G_iload (x := a10) (pc := 169) dX0_hang_169 rfl ?_
          refine G_iconst (pc := 171) dX0_hang_171 ?_
          refine G_idiv (pc := 172) dX0_hang_172 (fun x55 => ?_)
          refine G_istore (lv' := [vR a0, vI a1, vU, vI a3, vI a4, vI a5, vI a6, vI a7, vI a8, vI a9, vI x55, vI t0]) (pc := 173) dX0_hang_173 rfl ?_
          exact gX0_hang_J175 hst fu s53 a0 a1 a3 a4 a5 a6 a7 a8 a9 x55 t0 _ _ (fun w v5 v7 => hr w v5 v7) hk
def fX0_hang_J87 (fu : Nat) (s : z_M) (a0 : Int) (a1 : Int) (a3 : Int) (a4 : Int) (a5 : Int) (a6 : Int) (a7 : Int) (a8 : Int) (a9 : Int) (t0 : Int) (r : z_M → Int → Int → z_O) (k : z_M → Int → z_O) : z_O := if (a3 : Int) < a8 then (fX0_hang_J117 fu s a0 a1 a3 a4 a5 a6 a7 a8 a9 t0 0 (fun w v5 v7 => r w v5 v7) k) else (if z_ob a0 0 then z_let (z_gr a0 0) (fun x56 => if z_ob x56 10 then z_let (z_gr x56 2) (fun x57 => if z_ob x57 7 then z_bI (fX7_get fu s x57 a8) (fun x59 s58 => z_bI (fX0_room fu s58 x59 a4 0) (fun x61 s60 => fX0_hang_J117 fu s60 a0 a1 a3 a4 a5 a6 a7 a8 a9 t0 x61 (fun w v5 v7 => r w v5 v7) k)) else none) else none) else none)
theorem gX0_hang_J87 {l : Launch} {K : z_K} (hst : l.stackTraces = false) (fu : Nat) (s : z_M) (a0 : Int) (a1 : Int) (a3 : Int) (a4 : Int) (a5 : Int) (a6 : Int) (a7 : Int) (a8 : Int) (a9 : Int) (t0 : Int) (r : z_M → Int → Int → z_O) (k : z_M → Int → z_O) (hr : ∀ (s : z_M) (a5 : Int) (a7 : Int), G l K mX0_hang 1 22 0 0 9 [vR a0, vI a1, vU, vI a3, vI a4, vI a5, vI a6, vI a7, vU, vU, vU, vU] [] s (r s a5 a7)) (hk : ∀ (s : z_M) (a5 : Int), G l K mX0_hang 1 22 0 0 301 [vU, vU, vU, vU, vU, vI a5, vU, vU, vU, vU, vU, vU] [] s (k s a5)) : G l K mX0_hang 1 22 0 0 87 [vR a0, vI a1, vU, vI a3, vI a4, vI a5, vI a6, vI a7, vI a8, vI a9, vU, vU] [vI t0] s (fX0_hang_J87 fu s a0 a1 a3 a4 a5 a6 a7 a8 a9 t0 r k) := by
  unfold fX0_hang_J87
  refine G_istore (lv' := [vR a0, vI a1, vU, vI a3, vI a4, vI a5, vI a6, vI a7, vI a8, vI a9, vI t0, vU]) (pc := 87) dX0_hang_87 rfl ?_
  refine G_iload (x := a8) (pc := 89) dX0_hang_89 rfl ?_
  refine G_iload_n (x := a3) (pc := 91) dX0_hang_91 rfl ?_
  refine G_icmp_gt (tgt := 116) (pc := 92) dX0_hang_92 ?_ ?_
  · refine G_iconst (pc := 116) dX0_hang_116 ?_
    exact gX0_hang_J117 hst fu s a0 a1 a3 a4 a5 a6 a7 a8 a9 t0 0 _ _ (fun w v5 v7 => hr w v5 v7) hk
  · refine G_aload_n (x := a0) (pc := 95) dX0_hang_95 rfl ?_
    refine G_getR (j := 0) (pc := 96) dX0_hang_96 rfl z_CLX0 (by decide) z_wX0_41 (by decide) (fun x56 => ?_)
    refine G_getR (j := 2) (pc := 99) dX0_hang_99 rfl z_CLX10 (by decide) z_wX0_53 (by decide) (fun x57 => ?_)
    refine G_iload (x := a8) (pc := 102) dX0_hang_102 rfl ?_
    refine G_callVI (as := [vI a8]) (st := []) (c := 7) (bc2 := 0) (bs2 := 0) (pc := 104) dX0_hang_104 z_mX7_get z_vX7_get z_wX0_49 (gX7_get hst fu s x57 a8) rfl rfl (by decide) rfl rfl ⟨by decide, by decide, by decide, by decide, Nat.le_of_ble_eq_true rfl⟩ rfl (fun x59 s58 => ?_)
    refine G_iload (x := a4) (pc := 107) dX0_hang_107 rfl ?_
    refine G_iconst (pc := 109) dX0_hang_109 ?_
    refine G_callSI (as := [vI x59, vI a4, vI 0]) (st := []) (bc2 := 0) (bs2 := 0) (pc := 110) dX0_hang_110 z_mX0_room z_sX0_room z_wX0_79 (gX0_room hst fu s58 x59 a4 0) rfl rfl ⟨by decide, by decide, by decide, by decide, Nat.le_of_ble_eq_true rfl⟩ rfl (fun x61 s60 => ?_)
    refine G_goto (tgt := 117) (pc := 113) dX0_hang_113 ?_
    exact gX0_hang_J117 hst fu s60 a0 a1 a3 a4 a5 a6 a7 a8 a9 t0 x61 _ _ (fun w v5 v7 => hr w v5 v7) hk
def fX0_hang_L9 (fu : Nat) (a0 : Int) (a1 : Int) (a3 : Int) (a4 : Int) (a6 : Int) : Nat → z_M → Int → Int → (z_M → Int → z_O) → z_O
  | 0, _, _, _, _ => none
  | F + 1, s, a5, a7, k => if z_ob a0 0 then z_let (s a0 9) (fun x1 => if (x1 : Int) ≤ a7 then (k s a5) else (if z_ob a0 0 then z_let (z_gr a0 2) (fun x2 => if z_ob x2 7 then z_bI (fX7_get fu s x2 a7) (fun x4 s3 => z_let (z_w (x4 + 1)) (fun x5 => if z_ob a0 0 then z_let (z_gr a0 4) (fun x6 => if z_ob x6 7 then z_bI (fX7_get fu s3 x6 a7) (fun x8 s7 => if z_ob a0 0 then z_let (z_gr a0 1) (fun x9 => if z_ob x9 7 then z_bI (fX7_get fu s7 x9 a7) (fun x11 s10 => if (x11 : Int) ≤ a6 then (fX0_hang_J87 fu s10 a0 a1 a3 a4 a5 a6 a7 x5 x8 0 (fun w v5 v7 => fX0_hang_L9 fu a0 a1 a3 a4 a6 F w v5 v7 k) k) else (if z_ob a0 0 then z_let (z_gr a0 0) (fun x62 => if z_ob x62 10 then z_let (z_gr x62 2) (fun x63 => if z_ob a0 0 then z_let (z_gr a0 1) (fun x64 => if z_ob x64 7 then z_bI (fX7_get fu s10 x64 a7) (fun x66 s65 => z_let (z_w (x66 - 1)) (fun x67 => if z_ob x63 7 then z_bI (fX7_get fu s65 x63 x67) (fun x69 s68 => z_bI (fX0_room fu s68 x69 a4 1) (fun x71 s70 => fX0_hang_J87 fu s70 a0 a1 a3 a4 a5 a6 a7 x5 x8 x71 (fun w v5 v7 => fX0_hang_L9 fu a0 a1 a3 a4 a6 F w v5 v7 k) k)) else none)) else none) else none) else none) else none)) else none) else none) else none) else none)) else none) else none)) else none
theorem gX0_hang_L9 {l : Launch} {K : z_K} (hst : l.stackTraces = false) (fu : Nat) (a0 : Int) (a1 : Int) (a3 : Int) (a4 : Int) (a6 : Int) (k : z_M → Int → z_O) (hk : ∀ (s : z_M) (a5 : Int), G l K mX0_hang 1 22 0 0 301 [vU, vU, vU, vU, vU, vI a5, vU, vU, vU, vU, vU, vU] [] s (k s a5)) : ∀ (F : Nat) (s : z_M) (a5 : Int) (a7 : Int), G l K mX0_hang 1 22 0 0 9 [vR a0, vI a1, vU, vI a3, vI a4, vI a5, vI a6, vI a7, vU, vU, vU, vU] [] s (fX0_hang_L9 fu a0 a1 a3 a4 a6 F s a5 a7 k) := by
  intro F
  induction F with
  | zero => exact fun s a5 a7 h => absurd rfl h
  | succ F ih =>
    intro s a5 a7
    rw [fX0_hang_L9]
    refine G_iload (x := a7) (pc := 9) dX0_hang_9 rfl ?_
    refine G_aload_n (x := a0) (pc := 11) dX0_hang_11 rfl ?_
    refine G_getI (j := 9) (pc := 12) dX0_hang_12 rfl z_CLX0 (by decide) z_wX0_45 (by decide) (fun x1 => ?_)
    refine G_icmp_ge (tgt := 301) (pc := 15) dX0_hang_15 ?_ ?_
    · refine G_fg (lv2 := [vU, vU, vU, vU, vU, vI a5, vU, vU, vU, vU, vU, vU]) ⟨Or.inl rfl, Or.inl rfl, Or.inl rfl, Or.inl rfl, Or.inl rfl, Or.inr rfl, Or.inl rfl, Or.inl rfl, Or.inl rfl, Or.inl rfl, Or.inl rfl, Or.inl rfl, trivial⟩ ?_
      exact hk s a5
    · refine G_aload_n (x := a0) (pc := 18) dX0_hang_18 rfl ?_
      refine G_getR (j := 2) (pc := 19) dX0_hang_19 rfl z_CLX0 (by decide) z_wX0_20 (by decide) (fun x2 => ?_)
      refine G_iload (x := a7) (pc := 22) dX0_hang_22 rfl ?_
      refine G_callVI (as := [vI a7]) (st := []) (c := 7) (bc2 := 0) (bs2 := 0) (pc := 24) dX0_hang_24 z_mX7_get z_vX7_get z_wX0_49 (gX7_get hst fu s x2 a7) rfl rfl (by decide) rfl rfl ⟨by decide, by decide, by decide, by decide, Nat.le_of_ble_eq_true rfl⟩ rfl (fun x4 s3 => ?_)
      refine G_iconst (pc := 27) dX0_hang_27 ?_
      refine G_iadd (pc := 28) dX0_hang_28 (fun x5 => ?_)
      refine G_istore (lv' := [vR a0, vI a1, vU, vI a3, vI a4, vI a5, vI a6, vI a7, vI x5, vU, vU, vU]) (pc := 29) dX0_hang_29 rfl ?_
      refine G_aload_n (x := a0) (pc := 31) dX0_hang_31 rfl ?_
      refine G_getR (j := 4) (pc := 32) dX0_hang_32 rfl z_CLX0 (by decide) z_wX0_26 (by decide) (fun x6 => ?_)
      refine G_iload (x := a7) (pc := 35) dX0_hang_35 rfl ?_
      refine G_callVI (as := [vI a7]) (st := []) (c := 7) (bc2 := 0) (bs2 := 0) (pc := 37) dX0_hang_37 z_mX7_get z_vX7_get z_wX0_49 (gX7_get hst fu s3 x6 a7) rfl rfl (by decide) rfl rfl ⟨by decide, by decide, by decide, by decide, Nat.le_of_ble_eq_true rfl⟩ rfl (fun x8 s7 => ?_)
      refine G_istore (lv' := [vR a0, vI a1, vU, vI a3, vI a4, vI a5, vI a6, vI a7, vI x5, vI x8, vU, vU]) (pc := 40) dX0_hang_40 rfl ?_
      refine G_aload_n (x := a0) (pc := 42) dX0_hang_42 rfl ?_
      refine G_getR (j := 1) (pc := 43) dX0_hang_43 rfl z_CLX0 (by decide) z_wX0_14 (by decide) (fun x9 => ?_)
      refine G_iload (x := a7) (pc := 46) dX0_hang_46 rfl ?_
      refine G_callVI (as := [vI a7]) (st := []) (c := 7) (bc2 := 0) (bs2 := 0) (pc := 48) dX0_hang_48 z_mX7_get z_vX7_get z_wX0_49 (gX7_get hst fu s7 x9 a7) rfl rfl (by decide) rfl rfl ⟨by decide, by decide, by decide, by decide, Nat.le_of_ble_eq_true rfl⟩ rfl (fun x11 s10 => ?_)
      refine G_iload (x := a6) (pc := 51) dX0_hang_51 rfl ?_
      refine G_icmp_le (tgt := 86) (pc := 53) dX0_hang_53 ?_ ?_
      · refine G_iconst (pc := 86) dX0_hang_86 ?_
        exact gX0_hang_J87 hst fu s10 a0 a1 a3 a4 a5 a6 a7 x5 x8 0 _ _ (fun w v5 v7 => ih w v5 v7) hk
      · refine G_aload_n (x := a0) (pc := 56) dX0_hang_56 rfl ?_
        refine G_getR (j := 0) (pc := 57) dX0_hang_57 rfl z_CLX0 (by decide) z_wX0_41 (by decide) (fun x62 => ?_)
        refine G_getR (j := 2) (pc := 60) dX0_hang_60 rfl z_CLX10 (by decide) z_wX0_53 (by decide) (fun x63 => ?_)
        refine G_aload_n (x := a0) (pc := 63) dX0_hang_63 rfl ?_
        refine G_getR (j := 1) (pc := 64) dX0_hang_64 rfl z_CLX0 (by decide) z_wX0_14 (by decide) (fun x64 => ?_)
        refine G_iload (x := a7) (pc := 67) dX0_hang_67 rfl ?_
        refine G_callVI (as := [vI a7]) (st := [vR x63]) (c := 7) (bc2 := 0) (bs2 := 0) (pc := 69) dX0_hang_69 z_mX7_get z_vX7_get z_wX0_49 (gX7_get hst fu s10 x64 a7) rfl rfl (by decide) rfl rfl ⟨by decide, by decide, by decide, by decide, Nat.le_of_ble_eq_true rfl⟩ rfl (fun x66 s65 => ?_)
        refine G_iconst (pc := 72) dX0_hang_72 ?_
        refine G_isub (pc := 73) dX0_hang_73 (fun x67 => ?_)
        refine G_callVI (as := [vI x67]) (st := []) (c := 7) (bc2 := 0) (bs2 := 0) (pc := 74) dX0_hang_74 z_mX7_get z_vX7_get z_wX0_49 (gX7_get hst fu s65 x63 x67) rfl rfl (by decide) rfl rfl ⟨by decide, by decide, by decide, by decide, Nat.le_of_ble_eq_true rfl⟩ rfl (fun x69 s68 => ?_)
        refine G_iload (x := a4) (pc := 77) dX0_hang_77 rfl ?_
        refine G_iconst (pc := 79) dX0_hang_79 ?_
        refine G_callSI (as := [vI x69, vI a4, vI 1]) (st := []) (bc2 := 0) (bs2 := 0) (pc := 80) dX0_hang_80 z_mX0_room z_sX0_room z_wX0_79 (gX0_room hst fu s68 x69 a4 1) rfl rfl ⟨by decide, by decide, by decide, by decide, Nat.le_of_ble_eq_true rfl⟩ rfl (fun x71 s70 => ?_)
        refine G_goto (tgt := 87) (pc := 83) dX0_hang_83 ?_
        exact gX0_hang_J87 hst fu s70 a0 a1 a3 a4 a5 a6 a7 x5 x8 x71 _ _ (fun w v5 v7 => ih w v5 v7) hk
def fX0_hang (fu : Nat) (s : z_M) (a0 : Int) (a1 : Int) (a2 : Int) (a3 : Int) (a4 : Int) : z_O := fX0_hang_L9 fu a0 a1 a3 a4 a2 fu s 0 a1 (fun s72 x73 => some (vI x73, s72))
theorem gX0_hang {l : Launch} {K : z_K} (hst : l.stackTraces = false) (fu : Nat) (s : z_M) (a0 : Int) (a1 : Int) (a2 : Int) (a3 : Int) (a4 : Int) : z_D l K mX0_hang 1 22 0 0 [vR a0, vI a1, vI a2, vI a3, vI a4] s (fX0_hang fu s a0 a1 a2 a3 a4) := by
  refine z_D_of (lv := [vR a0, vI a1, vI a2, vI a3, vI a4, vU, vU, vU, vU, vU, vU, vU]) hst z_mX0_hang rfl ?_ (Nat.le_of_ble_eq_true rfl) rfl
  unfold fX0_hang
  refine G_iconst (pc := 0) dX0_hang_0 ?_
  refine G_istore (lv' := [vR a0, vI a1, vI a2, vI a3, vI a4, vI 0, vU, vU, vU, vU, vU, vU]) (pc := 1) dX0_hang_1 rfl ?_
  refine G_iload_n (x := a2) (pc := 3) dX0_hang_3 rfl ?_
  refine G_istore (lv' := [vR a0, vI a1, vI a2, vI a3, vI a4, vI 0, vI a2, vU, vU, vU, vU, vU]) (pc := 4) dX0_hang_4 rfl ?_
  refine G_iload_n (x := a1) (pc := 6) dX0_hang_6 rfl ?_
  refine G_istore (lv' := [vR a0, vI a1, vI a2, vI a3, vI a4, vI 0, vI a2, vI a1, vU, vU, vU, vU]) (pc := 7) dX0_hang_7 rfl ?_
  refine G_fg (lv2 := [vR a0, vI a1, vU, vI a3, vI a4, vI 0, vI a2, vI a1, vU, vU, vU, vU]) ⟨Or.inr rfl, Or.inr rfl, Or.inl rfl, Or.inr rfl, Or.inr rfl, Or.inr rfl, Or.inr rfl, Or.inr rfl, Or.inl rfl, Or.inl rfl, Or.inl rfl, Or.inl rfl, trivial⟩ ?_
  refine gX0_hang_L9 hst fu a0 a1 a3 a4 a2 _ (fun s72 x73 => ?_) fu s 0 a1
  refine G_iload (x := x73) (pc := 301) dX0_hang_301 rfl ?_
  exact G_iret (pc := 303) dX0_hang_303
