/-! FUNCTIONS: each method as a function of numbers, and that its code does what it says (by program) -/
theorem z_tokX11_0 : z_TOK RX11 359 361 0 := ⟨z_wX11_359, by decide +kernel, by decide +kernel, by decide +kernel, by decide +kernel⟩
theorem z_tokX11_1 : z_TOK RX11 362 364 1 := ⟨z_wX11_362, by decide +kernel, by decide +kernel, by decide +kernel, by decide +kernel⟩
def fX7_put_J20 (fu : Nat) (s : z_M) : z_O := some (vN, s)
theorem gX7_put_J20 {l : Launch} {K : z_K} (hst : l.stackTraces = false) (fu : Nat) (s : z_M) : G l K mX7_put 0 0 0 0 20 [vU, vU, vU] [] s (fX7_put_J20 fu s) := by
  unfold fX7_put_J20
  exact G_vret (pc := 20) dX7_put_20
def fX7_put (fu : Nat) (s : z_M) (a0 : Int) (a1 : Int) (a2 : Int) : z_O := if (a1 : Int) < 0 then (fX7_put_J20 fu s) else (if z_ob a0 7 then z_let (z_gr a0 0) (fun x1 => if z_ob x1 100 ∧ z_I ((z_sh x1).2 : Nat) then z_let (((z_sh x1).2 : Nat) : Int) (fun x2 => if (x2 : Int) ≤ a1 then (fX7_put_J20 fu s) else (if z_ob a0 7 then z_let (z_gr a0 0) (fun x3 => if z_ix x3 100 a1 then z_let (z_up s x3 a1 a2) (fun s4 => fX7_put_J20 fu s4) else none) else none)) else none) else none)
theorem gX7_put {l : Launch} {K : z_K} (hst : l.stackTraces = false) (fu : Nat) (s : z_M) (a0 : Int) (a1 : Int) (a2 : Int) : z_D l K mX7_put 0 0 0 0 [vR a0, vI a1, vI a2] s (fX7_put fu s a0 a1 a2) := by
  refine z_D_of (lv := [vR a0, vI a1, vI a2]) hst z_mX7_put rfl ?_ (Nat.le_of_ble_eq_true rfl) rfl
  unfold fX7_put
  refine G_iload_n (x := a1) (pc := 0) dX7_put_0 rfl ?_
  refine G_if_lt (tgt := 20) (pc := 1) dX7_put_1 ?_ ?_
  · refine G_fg (lv2 := [vU, vU, vU]) ⟨Or.inl rfl, Or.inl rfl, Or.inl rfl, trivial⟩ ?_
    exact gX7_put_J20 hst fu s
  · refine G_iload_n (x := a1) (pc := 4) dX7_put_4 rfl ?_
    refine G_aload_n (x := a0) (pc := 5) dX7_put_5 rfl ?_
    refine G_getR (j := 0) (pc := 6) dX7_put_6 rfl z_CLX7 (by decide) z_wX7_7 (by decide) (fun x1 => ?_)
    refine G_alen100 (pc := 9) dX7_put_9 (fun x2 => ?_)
    refine G_icmp_ge (tgt := 20) (pc := 10) dX7_put_10 ?_ ?_
    · refine G_fg (lv2 := [vU, vU, vU]) ⟨Or.inl rfl, Or.inl rfl, Or.inl rfl, trivial⟩ ?_
      exact gX7_put_J20 hst fu s
    · refine G_aload_n (x := a0) (pc := 13) dX7_put_13 rfl ?_
      refine G_getR (j := 0) (pc := 14) dX7_put_14 rfl z_CLX7 (by decide) z_wX7_7 (by decide) (fun x3 => ?_)
      refine G_iload_n (x := a1) (pc := 17) dX7_put_17 rfl ?_
      refine G_iload_n (x := a2) (pc := 18) dX7_put_18 rfl ?_
      refine G_iast (pc := 19) dX7_put_19 (fun s4 => ?_)
      refine G_fg (lv2 := [vU, vU, vU]) ⟨Or.inl rfl, Or.inl rfl, Or.inl rfl, trivial⟩ ?_
      exact gX7_put_J20 hst fu s4
def fX7_get_J23 (fu : Nat) (s : z_M) (t0 : Int) : z_O := some (vI t0, s)
theorem gX7_get_J23 {l : Launch} {K : z_K} (hst : l.stackTraces = false) (fu : Nat) (s : z_M) (t0 : Int) : G l K mX7_get 0 0 0 0 23 [vU, vU] [vI t0] s (fX7_get_J23 fu s t0) := by
  unfold fX7_get_J23
  exact G_iret (pc := 23) dX7_get_23
def fX7_get_J22 (fu : Nat) (s : z_M) : z_O := fX7_get_J23 fu s 0
theorem gX7_get_J22 {l : Launch} {K : z_K} (hst : l.stackTraces = false) (fu : Nat) (s : z_M) : G l K mX7_get 0 0 0 0 22 [vU, vU] [] s (fX7_get_J22 fu s) := by
  unfold fX7_get_J22
  refine G_iconst (pc := 22) dX7_get_22 ?_
  exact gX7_get_J23 hst fu s 0
def fX7_get (fu : Nat) (s : z_M) (a0 : Int) (a1 : Int) : z_O := if (a1 : Int) < 0 then (fX7_get_J22 fu s) else (if z_ob a0 7 then z_let (z_gr a0 0) (fun x1 => if z_ob x1 100 ∧ z_I ((z_sh x1).2 : Nat) then z_let (((z_sh x1).2 : Nat) : Int) (fun x2 => if (x2 : Int) ≤ a1 then (fX7_get_J22 fu s) else (if z_ob a0 7 then z_let (z_gr a0 0) (fun x3 => if z_ix x3 100 a1 then z_let (s x3 a1) (fun x4 => fX7_get_J23 fu s x4) else none) else none)) else none) else none)
theorem gX7_get {l : Launch} {K : z_K} (hst : l.stackTraces = false) (fu : Nat) (s : z_M) (a0 : Int) (a1 : Int) : z_D l K mX7_get 0 0 0 0 [vR a0, vI a1] s (fX7_get fu s a0 a1) := by
  refine z_D_of (lv := [vR a0, vI a1]) hst z_mX7_get rfl ?_ (Nat.le_of_ble_eq_true rfl) rfl
  unfold fX7_get
  refine G_iload_n (x := a1) (pc := 0) dX7_get_0 rfl ?_
  refine G_if_lt (tgt := 22) (pc := 1) dX7_get_1 ?_ ?_
  · refine G_fg (lv2 := [vU, vU]) ⟨Or.inl rfl, Or.inl rfl, trivial⟩ ?_
    exact gX7_get_J22 hst fu s
  · refine G_iload_n (x := a1) (pc := 4) dX7_get_4 rfl ?_
    refine G_aload_n (x := a0) (pc := 5) dX7_get_5 rfl ?_
    refine G_getR (j := 0) (pc := 6) dX7_get_6 rfl z_CLX7 (by decide) z_wX7_7 (by decide) (fun x1 => ?_)
    refine G_alen100 (pc := 9) dX7_get_9 (fun x2 => ?_)
    refine G_icmp_ge (tgt := 22) (pc := 10) dX7_get_10 ?_ ?_
    · refine G_fg (lv2 := [vU, vU]) ⟨Or.inl rfl, Or.inl rfl, trivial⟩ ?_
      exact gX7_get_J22 hst fu s
    · refine G_aload_n (x := a0) (pc := 13) dX7_get_13 rfl ?_
      refine G_getR (j := 0) (pc := 14) dX7_get_14 rfl z_CLX7 (by decide) z_wX7_7 (by decide) (fun x3 => ?_)
      refine G_iload_n (x := a1) (pc := 17) dX7_get_17 rfl ?_
      refine G_iald (pc := 18) dX7_get_18 (fun x4 => ?_)
      refine G_goto (tgt := 23) (pc := 19) dX7_get_19 ?_
      refine G_fg (lv2 := [vU, vU]) ⟨Or.inl rfl, Or.inl rfl, trivial⟩ ?_
      exact gX7_get_J23 hst fu s x4
def fX11_needWithin_J10 (fu : Nat) (s : z_M) (a0 : Int) : z_O := if z_ob a0 11 then z_let (s a0 15) (fun x1 => z_let (z_w (x1 + 1)) (fun x2 => if z_ob a0 11 then z_let (z_up s a0 15 x2) (fun s3 => some (vX 1, s3)) else none)) else none
theorem gX11_needWithin_J10 {l : Launch} {K : z_K} (hst : l.stackTraces = false) (fu : Nat) (s : z_M) (a0 : Int) : G l K mX11_needWithin 6 81 1 6 10 [vR a0, vU, vU, vU] [] s (fX11_needWithin_J10 fu s a0) := by
  unfold fX11_needWithin_J10
  refine G_aload_n (x := a0) (pc := 10) dX11_needWithin_10 rfl ?_
  refine G_dupR (pc := 11) dX11_needWithin_11 ?_
  refine G_getI (j := 15) (pc := 12) dX11_needWithin_12 rfl z_CLX11 (by decide) z_wX11_356 (by decide) (fun x1 => ?_)
  refine G_iconst (pc := 15) dX11_needWithin_15 ?_
  refine G_iadd (pc := 16) dX11_needWithin_16 (fun x2 => ?_)
  refine G_putI (j := 15) (pc := 17) dX11_needWithin_17 rfl z_CLX11 (by decide) z_wX11_356 rfl (by decide) (by decide) (fun s3 => ?_)
  exact G_throw (pc := 20) z_tokX11_1 dX11_needWithin_20 dX11_needWithin_23 dX11_needWithin_24 dX11_needWithin_27
def fX11_needWithin (fu : Nat) (s : z_M) (a0 : Int) (a1 : Int) (a2 : Int) (a3 : Int) : z_O := if (a1 : Int) < a2 then (fX11_needWithin_J10 fu s a0) else (if (a1 : Int) ≤ a3 then (some (vN, s)) else (fX11_needWithin_J10 fu s a0))
theorem gX11_needWithin {l : Launch} {K : z_K} (hst : l.stackTraces = false) (fu : Nat) (s : z_M) (a0 : Int) (a1 : Int) (a2 : Int) (a3 : Int) : z_D l K mX11_needWithin 6 81 1 6 [vR a0, vI a1, vI a2, vI a3] s (fX11_needWithin fu s a0 a1 a2 a3) := by
  refine z_D_of (lv := [vR a0, vI a1, vI a2, vI a3]) hst z_mX11_needWithin rfl ?_ (Nat.le_of_ble_eq_true rfl) rfl
  unfold fX11_needWithin
  refine G_iload_n (x := a1) (pc := 0) dX11_needWithin_0 rfl ?_
  refine G_iload_n (x := a2) (pc := 1) dX11_needWithin_1 rfl ?_
  refine G_icmp_lt (tgt := 10) (pc := 2) dX11_needWithin_2 ?_ ?_
  · refine G_fg (lv2 := [vR a0, vU, vU, vU]) ⟨Or.inr rfl, Or.inl rfl, Or.inl rfl, Or.inl rfl, trivial⟩ ?_
    exact gX11_needWithin_J10 hst fu s a0
  · refine G_iload_n (x := a1) (pc := 5) dX11_needWithin_5 rfl ?_
    refine G_iload_n (x := a3) (pc := 6) dX11_needWithin_6 rfl ?_
    refine G_icmp_le (tgt := 28) (pc := 7) dX11_needWithin_7 ?_ ?_
    · exact G_vret (pc := 28) dX11_needWithin_28
    · refine G_fg (lv2 := [vR a0, vU, vU, vU]) ⟨Or.inr rfl, Or.inl rfl, Or.inl rfl, Or.inl rfl, trivial⟩ ?_
      exact gX11_needWithin_J10 hst fu s a0
def fX11_needExisting_J9 (fu : Nat) (s : z_M) (a0 : Int) : z_O := if z_ob a0 11 then z_let (s a0 14) (fun x1 => z_let (z_w (x1 + 1)) (fun x2 => if z_ob a0 11 then z_let (z_up s a0 14 x2) (fun s3 => some (vX 0, s3)) else none)) else none
theorem gX11_needExisting_J9 {l : Launch} {K : z_K} (hst : l.stackTraces = false) (fu : Nat) (s : z_M) (a0 : Int) : G l K mX11_needExisting 6 81 1 6 9 [vR a0, vU, vU] [] s (fX11_needExisting_J9 fu s a0) := by
  unfold fX11_needExisting_J9
  refine G_aload_n (x := a0) (pc := 9) dX11_needExisting_9 rfl ?_
  refine G_dupR (pc := 10) dX11_needExisting_10 ?_
  refine G_getI (j := 14) (pc := 11) dX11_needExisting_11 rfl z_CLX11 (by decide) z_wX11_353 (by decide) (fun x1 => ?_)
  refine G_iconst (pc := 14) dX11_needExisting_14 ?_
  refine G_iadd (pc := 15) dX11_needExisting_15 (fun x2 => ?_)
  refine G_putI (j := 14) (pc := 16) dX11_needExisting_16 rfl z_CLX11 (by decide) z_wX11_353 rfl (by decide) (by decide) (fun s3 => ?_)
  exact G_throw (pc := 19) z_tokX11_0 dX11_needExisting_19 dX11_needExisting_22 dX11_needExisting_23 dX11_needExisting_26
def fX11_needExisting (fu : Nat) (s : z_M) (a0 : Int) (a1 : Int) (a2 : Int) : z_O := if (a1 : Int) < 0 then (fX11_needExisting_J9 fu s a0) else (if (a1 : Int) < a2 then (some (vN, s)) else (fX11_needExisting_J9 fu s a0))
theorem gX11_needExisting {l : Launch} {K : z_K} (hst : l.stackTraces = false) (fu : Nat) (s : z_M) (a0 : Int) (a1 : Int) (a2 : Int) : z_D l K mX11_needExisting 6 81 1 6 [vR a0, vI a1, vI a2] s (fX11_needExisting fu s a0 a1 a2) := by
  refine z_D_of (lv := [vR a0, vI a1, vI a2]) hst z_mX11_needExisting rfl ?_ (Nat.le_of_ble_eq_true rfl) rfl
  unfold fX11_needExisting
  refine G_iload_n (x := a1) (pc := 0) dX11_needExisting_0 rfl ?_
  refine G_if_lt (tgt := 9) (pc := 1) dX11_needExisting_1 ?_ ?_
  · refine G_fg (lv2 := [vR a0, vU, vU]) ⟨Or.inr rfl, Or.inl rfl, Or.inl rfl, trivial⟩ ?_
    exact gX11_needExisting_J9 hst fu s a0
  · refine G_iload_n (x := a1) (pc := 4) dX11_needExisting_4 rfl ?_
    refine G_iload_n (x := a2) (pc := 5) dX11_needExisting_5 rfl ?_
    refine G_icmp_lt (tgt := 27) (pc := 6) dX11_needExisting_6 ?_ ?_
    · exact G_vret (pc := 27) dX11_needExisting_27
    · refine G_fg (lv2 := [vR a0, vU, vU]) ⟨Or.inr rfl, Or.inl rfl, Or.inl rfl, trivial⟩ ?_
      exact gX11_needExisting_J9 hst fu s a0
def fX7_close_L3 (fu : Nat) (a0 : Int) (a1 : Int) (a2 : Int) (a3 : Int) : Nat → z_M → Int → (z_M → z_O) → z_O
  | 0, _, _, _ => none
  | F + 1, s, a4, k => if (a3 : Int) ≤ a4 then (k s) else (z_let (z_w (a1 + a4)) (fun x1 => z_let (z_w (x1 - a2)) (fun x2 => if z_ob a0 7 then z_bI (fX7_get fu s a0 a4) (fun x4 s3 => if z_ob a0 7 then z_bN (fX7_put fu s3 a0 x2 x4) (fun s5 => z_let (z_w (a4 + 1)) (fun x6 => fX7_close_L3 fu a0 a1 a2 a3 F s5 x6 k)) else none) else none)))
theorem gX7_close_L3 {l : Launch} {K : z_K} (hst : l.stackTraces = false) (fu : Nat) (a0 : Int) (a1 : Int) (a2 : Int) (a3 : Int) (k : z_M → z_O) (hk : ∀ (s : z_M), G l K mX7_close 1 22 0 0 31 [vU, vU, vU, vU, vU] [] s (k s)) : ∀ (F : Nat) (s : z_M) (a4 : Int), G l K mX7_close 1 22 0 0 3 [vR a0, vI a1, vI a2, vI a3, vI a4] [] s (fX7_close_L3 fu a0 a1 a2 a3 F s a4 k) := by
  intro F
  induction F with
  | zero => exact fun s a4 h => absurd rfl h
  | succ F ih =>
    intro s a4
    rw [fX7_close_L3]
    refine G_iload (x := a4) (pc := 3) dX7_close_3 rfl ?_
    refine G_iload_n (x := a3) (pc := 5) dX7_close_5 rfl ?_
    refine G_icmp_ge (tgt := 31) (pc := 6) dX7_close_6 ?_ ?_
    · refine G_fg (lv2 := [vU, vU, vU, vU, vU]) ⟨Or.inl rfl, Or.inl rfl, Or.inl rfl, Or.inl rfl, Or.inl rfl, trivial⟩ ?_
      exact hk s
    · refine G_aload_n (x := a0) (pc := 9) dX7_close_9 rfl ?_
      refine G_iload_n (x := a1) (pc := 10) dX7_close_10 rfl ?_
      refine G_iload (x := a4) (pc := 11) dX7_close_11 rfl ?_
      refine G_iadd (pc := 13) dX7_close_13 (fun x1 => ?_)
      refine G_iload_n (x := a2) (pc := 14) dX7_close_14 rfl ?_
      refine G_isub (pc := 15) dX7_close_15 (fun x2 => ?_)
      refine G_aload_n (x := a0) (pc := 16) dX7_close_16 rfl ?_
      refine G_iload (x := a4) (pc := 17) dX7_close_17 rfl ?_
      refine G_callVI (as := [vI a4]) (st := [vI x2, vR a0]) (c := 7) (bc2 := 0) (bs2 := 0) (pc := 19) dX7_close_19 z_mX7_get z_vX7_get z_wX7_17 (gX7_get hst fu s a0 a4) rfl rfl (by decide) rfl rfl ⟨by decide, by decide, by decide, by decide, Nat.le_of_ble_eq_true rfl⟩ rfl (fun x4 s3 => ?_)
      refine G_callVN (as := [vI x2, vI x4]) (st := []) (c := 7) (bc2 := 0) (bs2 := 0) (pc := 22) dX7_close_22 z_mX7_put z_vX7_put z_wX7_13 (gX7_put hst fu s3 a0 x2 x4) rfl rfl (by decide) rfl rfl ⟨by decide, by decide, by decide, by decide, Nat.le_of_ble_eq_true rfl⟩ rfl (fun s5 => ?_)
      refine G_iinc (x := a4) (g := fun x6 => [vR a0, vI a1, vI a2, vI a3, vI x6]) (pc := 25) dX7_close_25 rfl (fun _ => rfl) (fun x6 => ?_)
      refine G_goto (tgt := 3) (pc := 28) dX7_close_28 ?_
      exact ih s5 x6
def fX7_close (fu : Nat) (s : z_M) (a0 : Int) (a1 : Int) (a2 : Int) (a3 : Int) : z_O := fX7_close_L3 fu a0 a1 a2 a3 fu s a2 (fun s7 => some (vN, s7))
theorem gX7_close {l : Launch} {K : z_K} (hst : l.stackTraces = false) (fu : Nat) (s : z_M) (a0 : Int) (a1 : Int) (a2 : Int) (a3 : Int) : z_D l K mX7_close 1 22 0 0 [vR a0, vI a1, vI a2, vI a3] s (fX7_close fu s a0 a1 a2 a3) := by
  refine z_D_of (lv := [vR a0, vI a1, vI a2, vI a3, vU]) hst z_mX7_close rfl ?_ (Nat.le_of_ble_eq_true rfl) rfl
  unfold fX7_close
  refine G_iload_n (x := a2) (pc := 0) dX7_close_0 rfl ?_
  refine G_istore (lv' := [vR a0, vI a1, vI a2, vI a3, vI a2]) (pc := 1) dX7_close_1 rfl ?_
  refine gX7_close_L3 hst fu a0 a1 a2 a3 _ (fun s7 => ?_) fu s a2
  exact G_vret (pc := 31) dX7_close_31
def fX9_renumber_J64 (fu : Nat) (s : z_M) (a0 : Int) (a2 : Int) (a3 : Int) (r : z_M → Int → Int → z_O) (k : z_M → z_O) : z_O := z_let (z_w (a2 + 1)) (fun x6 => r s a3 x6)
theorem gX9_renumber_J64 {l : Launch} {K : z_K} (hst : l.stackTraces = false) (fu : Nat) (s : z_M) (a0 : Int) (a2 : Int) (a3 : Int) (r : z_M → Int → Int → z_O) (k : z_M → z_O) (hr : ∀ (s : z_M) (a1 : Int) (a2 : Int), G l K mX9_renumber 1 22 0 0 9 [vR a0, vI a1, vI a2, vU] [] s (r s a1 a2)) (hk : ∀ (s : z_M), G l K mX9_renumber 1 22 0 0 72 [vU, vU, vU, vU] [] s (k s)) : G l K mX9_renumber 1 22 0 0 64 [vR a0, vU, vI a2, vI a3] [] s (fX9_renumber_J64 fu s a0 a2 a3 r k) := by
  unfold fX9_renumber_J64
  refine G_iload_n (x := a3) (pc := 64) dX9_renumber_64 rfl ?_
  refine G_istore_n (lv' := [vR a0, vI a3, vI a2, vI a3]) (pc := 65) dX9_renumber_65 rfl ?_
  refine G_iinc (x := a2) (g := fun x6 => [vR a0, vI a3, vI x6, vI a3]) (pc := 66) dX9_renumber_66 rfl (fun _ => rfl) (fun x6 => ?_)
  refine G_goto (tgt := 9) (pc := 69) dX9_renumber_69 ?_
  refine G_fg (lv2 := [vR a0, vI a3, vI x6, vU]) ⟨Or.inr rfl, Or.inr rfl, Or.inr rfl, Or.inl rfl, trivial⟩ ?_
  exact hr s a3 x6
def fX9_renumber_J46 (fu : Nat) (s : z_M) (a0 : Int) (a2 : Int) (a3 : Int) (t0 : Int) (t1 : Int) (t2 : Int) (r : z_M → Int → Int → z_O) (k : z_M → z_O) : z_O := z_let (z_w (t1 + t2)) (fun x8 => if z_ob t0 9 then z_let (z_up s t0 7 x8) (fun s9 => if z_ob a0 9 then z_let (z_gr a0 2) (fun x10 => if z_ob a0 9 then z_let (s9 a0 7) (fun x11 => z_let (z_w (x11 - 1)) (fun x12 => if z_ob x10 7 then z_bN (fX7_put fu s9 x10 a2 x12) (fun s13 => fX9_renumber_J64 fu s13 a0 a2 a3 (fun w v1 v2 => r w v1 v2) k) else none)) else none) else none) else none)
theorem gX9_renumber_J46 {l : Launch} {K : z_K} (hst : l.stackTraces = false) (fu : Nat) (s : z_M) (a0 : Int) (a2 : Int) (a3 : Int) (t0 : Int) (t1 : Int) (t2 : Int) (r : z_M → Int → Int → z_O) (k : z_M → z_O) (hr : ∀ (s : z_M) (a1 : Int) (a2 : Int), G l K mX9_renumber 1 22 0 0 9 [vR a0, vI a1, vI a2, vU] [] s (r s a1 a2)) (hk : ∀ (s : z_M), G l K mX9_renumber 1 22 0 0 72 [vU, vU, vU, vU] [] s (k s)) : G l K mX9_renumber 1 22 0 0 46 [vR a0, vU, vI a2, vI a3] [vI t2, vI t1, vR t0] s (fX9_renumber_J46 fu s a0 a2 a3 t0 t1 t2 r k) := by
  unfold fX9_renumber_J46
  refine G_iadd (pc := 46) dX9_renumber_46 (fun x8 => ?_)
  refine G_putI (j := 7) (pc := 47) dX9_renumber_47 rfl z_CLX9 (by decide) z_wX9_43 rfl (by decide) (by decide) (fun s9 => ?_)
  refine G_aload_n (x := a0) (pc := 50) dX9_renumber_50 rfl ?_
  refine G_getR (j := 2) (pc := 51) dX9_renumber_51 rfl z_CLX9 (by decide) z_wX9_23 (by decide) (fun x10 => ?_)
  refine G_iload_n (x := a2) (pc := 54) dX9_renumber_54 rfl ?_
  refine G_aload_n (x := a0) (pc := 55) dX9_renumber_55 rfl ?_
  refine G_getI (j := 7) (pc := 56) dX9_renumber_56 rfl z_CLX9 (by decide) z_wX9_43 (by decide) (fun x11 => ?_)
  refine G_iconst (pc := 59) dX9_renumber_59 ?_
  refine G_isub (pc := 60) dX9_renumber_60 (fun x12 => ?_)
  refine G_callVN (as := [vI a2, vI x12]) (st := []) (c := 7) (bc2 := 0) (bs2 := 0) (pc := 61) dX9_renumber_61 z_mX7_put z_vX7_put z_wX9_56 (gX7_put hst fu s9 x10 a2 x12) rfl rfl (by decide) rfl rfl ⟨by decide, by decide, by decide, by decide, Nat.le_of_ble_eq_true rfl⟩ rfl (fun s13 => ?_)
  exact gX9_renumber_J64 hst fu s13 a0 a2 a3 _ _ (fun w v1 v2 => hr w v1 v2) hk
def fX9_renumber_L9 (fu : Nat) (a0 : Int) : Nat → z_M → Int → Int → (z_M → z_O) → z_O
  | 0, _, _, _, _ => none
  | F + 1, s, a1, a2, k => if z_ob a0 9 then z_let (s a0 6) (fun x2 => if (x2 : Int) ≤ a2 then (k s) else (if z_ob a0 9 then z_let (z_gr a0 2) (fun x3 => if z_ob x3 7 then z_bI (fX7_get fu s x3 a2) (fun x5 s4 => if (x5 : Int) = (-1) then (fX9_renumber_J64 fu s4 a0 a2 x5 (fun w v1 v2 => fX9_renumber_L9 fu a0 F w v1 v2 k) k) else (if z_ob a0 9 then z_let (s4 a0 7) (fun x7 => if (x5 : Int) ≠ a1 then (fX9_renumber_J46 fu s4 a0 a2 x5 a0 x7 1 (fun w v1 v2 => fX9_renumber_L9 fu a0 F w v1 v2 k) k) else (fX9_renumber_J46 fu s4 a0 a2 x5 a0 x7 0 (fun w v1 v2 => fX9_renumber_L9 fu a0 F w v1 v2 k) k)) else none)) else none) else none)) else none
theorem gX9_renumber_L9 {l : Launch} {K : z_K} (hst : l.stackTraces = false) (fu : Nat) (a0 : Int) (k : z_M → z_O) (hk : ∀ (s : z_M), G l K mX9_renumber 1 22 0 0 72 [vU, vU, vU, vU] [] s (k s)) : ∀ (F : Nat) (s : z_M) (a1 : Int) (a2 : Int), G l K mX9_renumber 1 22 0 0 9 [vR a0, vI a1, vI a2, vU] [] s (fX9_renumber_L9 fu a0 F s a1 a2 k) := by
  intro F
  induction F with
  | zero => exact fun s a1 a2 h => absurd rfl h
  | succ F ih =>
    intro s a1 a2
    rw [fX9_renumber_L9]
    refine G_iload_n (x := a2) (pc := 9) dX9_renumber_9 rfl ?_
    refine G_aload_n (x := a0) (pc := 10) dX9_renumber_10 rfl ?_
    refine G_getI (j := 6) (pc := 11) dX9_renumber_11 rfl z_CLX9 (by decide) z_wX9_39 (by decide) (fun x2 => ?_)
    refine G_icmp_ge (tgt := 72) (pc := 14) dX9_renumber_14 ?_ ?_
    · refine G_fg (lv2 := [vU, vU, vU, vU]) ⟨Or.inl rfl, Or.inl rfl, Or.inl rfl, Or.inl rfl, trivial⟩ ?_
      exact hk s
    · refine G_aload_n (x := a0) (pc := 17) dX9_renumber_17 rfl ?_
      refine G_getR (j := 2) (pc := 18) dX9_renumber_18 rfl z_CLX9 (by decide) z_wX9_23 (by decide) (fun x3 => ?_)
      refine G_iload_n (x := a2) (pc := 21) dX9_renumber_21 rfl ?_
      refine G_callVI (as := [vI a2]) (st := []) (c := 7) (bc2 := 0) (bs2 := 0) (pc := 22) dX9_renumber_22 z_mX7_get z_vX7_get z_wX9_71 (gX7_get hst fu s x3 a2) rfl rfl (by decide) rfl rfl ⟨by decide, by decide, by decide, by decide, Nat.le_of_ble_eq_true rfl⟩ rfl (fun x5 s4 => ?_)
      refine G_istore_n (lv' := [vR a0, vI a1, vI a2, vI x5]) (pc := 25) dX9_renumber_25 rfl ?_
      refine G_iload_n (x := x5) (pc := 26) dX9_renumber_26 rfl ?_
      refine G_iconst (pc := 27) dX9_renumber_27 ?_
      refine G_icmp_eq (tgt := 64) (pc := 28) dX9_renumber_28 ?_ ?_
      · refine G_fg (lv2 := [vR a0, vU, vI a2, vI x5]) ⟨Or.inr rfl, Or.inl rfl, Or.inr rfl, Or.inr rfl, trivial⟩ ?_
        exact gX9_renumber_J64 hst fu s4 a0 a2 x5 _ _ (fun w v1 v2 => ih w v1 v2) hk
      · refine G_aload_n (x := a0) (pc := 31) dX9_renumber_31 rfl ?_
        refine G_dupR (pc := 32) dX9_renumber_32 ?_
        refine G_getI (j := 7) (pc := 33) dX9_renumber_33 rfl z_CLX9 (by decide) z_wX9_43 (by decide) (fun x7 => ?_)
        refine G_iload_n (x := x5) (pc := 36) dX9_renumber_36 rfl ?_
        refine G_iload_n (x := a1) (pc := 37) dX9_renumber_37 rfl ?_
        refine G_icmp_ne (tgt := 45) (pc := 38) dX9_renumber_38 ?_ ?_
        · refine G_iconst (pc := 45) dX9_renumber_45 ?_
          refine G_fg (lv2 := [vR a0, vU, vI a2, vI x5]) ⟨Or.inr rfl, Or.inl rfl, Or.inr rfl, Or.inr rfl, trivial⟩ ?_
          exact gX9_renumber_J46 hst fu s4 a0 a2 x5 a0 x7 1 _ _ (fun w v1 v2 => ih w v1 v2) hk
        · refine G_iconst (pc := 41) dX9_renumber_41 ?_
          refine G_goto (tgt := 46) (pc := 42) dX9_renumber_42 ?_
          refine G_fg (lv2 := [vR a0, vU, vI a2, vI x5]) ⟨Or.inr rfl, Or.inl rfl, Or.inr rfl, Or.inr rfl, trivial⟩ ?_
          exact gX9_renumber_J46 hst fu s4 a0 a2 x5 a0 x7 0 _ _ (fun w v1 v2 => ih w v1 v2) hk
def fX9_renumber (fu : Nat) (s : z_M) (a0 : Int) : z_O := if z_ob a0 9 then z_let (z_up s a0 7 0) (fun s1 => fX9_renumber_L9 fu a0 fu s1 (-1) 0 (fun s14 => some (vN, s14))) else none
theorem gX9_renumber {l : Launch} {K : z_K} (hst : l.stackTraces = false) (fu : Nat) (s : z_M) (a0 : Int) : z_D l K mX9_renumber 1 22 0 0 [vR a0] s (fX9_renumber fu s a0) := by
  refine z_D_of (lv := [vR a0, vU, vU, vU]) hst z_mX9_renumber rfl ?_ (Nat.le_of_ble_eq_true rfl) rfl
  unfold fX9_renumber
  refine G_iconst (pc := 0) dX9_renumber_0 ?_
  refine G_istore_n (lv' := [vR a0, vI (-1), vU, vU]) (pc := 1) dX9_renumber_1 rfl ?_
  refine G_aload_n (x := a0) (pc := 2) dX9_renumber_2 rfl ?_
  refine G_iconst (pc := 3) dX9_renumber_3 ?_
  refine G_putI (j := 7) (pc := 4) dX9_renumber_4 rfl z_CLX9 (by decide) z_wX9_43 rfl (by decide) (by decide) (fun s1 => ?_)
  refine G_iconst (pc := 7) dX9_renumber_7 ?_
  refine G_istore_n (lv' := [vR a0, vI (-1), vI 0, vU]) (pc := 8) dX9_renumber_8 rfl ?_
  refine gX9_renumber_L9 hst fu a0 _ (fun s14 => ?_) fu s1 (-1) 0
  exact G_vret (pc := 72) dX9_renumber_72
