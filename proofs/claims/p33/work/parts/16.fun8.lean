/-! FUNCTIONS, further (by program) -/
def fX12_cut_J54 (fu : Nat) (s : z_M) : z_O := some (vI 0, s)
theorem gX12_cut_J54 {l : Launch} {K : z_K} (hst : l.stackTraces = false) (fu : Nat) (s : z_M) : G l K mX12_cut 3 63 0 0 54 [vU, vU, vU, vU, vU, vU, vU, vU, vU, vU, vU, vU] [] s (fX12_cut_J54 fu s) := by
  unfold fX12_cut_J54
  refine G_iconst (pc := 54) dX12_cut_54 ?_
  exact G_iret (pc := 55) dX12_cut_55
def fX12_cut_L100 (fu : Nat) (a0 : Int) (a3 : Int) (a4 : Int) (a5 : Int) (a6 : Int) (a7 : Int) (a8 : Int) : Nat → z_M → Int → (z_M → z_O) → z_O
  | 0, _, _, _ => none
  | F + 1, s, a9, k => if (200 : Int) ≤ a9 then (k s) else (if z_ob a0 12 then z_let (z_gr a0 66) (fun x16 => if z_ix x16 100 a9 then z_let (z_up s x16 a9 (-1)) (fun s17 => z_let (z_w (a9 + 1)) (fun x18 => fX12_cut_L100 fu a0 a3 a4 a5 a6 a7 a8 F s17 x18 k)) else none) else none)
theorem gX12_cut_L100 {l : Launch} {K : z_K} (hst : l.stackTraces = false) (fu : Nat) (a0 : Int) (a3 : Int) (a4 : Int) (a5 : Int) (a6 : Int) (a7 : Int) (a8 : Int) (k : z_M → z_O) (hk : ∀ (s : z_M), G l K mX12_cut 3 63 0 0 122 [vR a0, vU, vU, vI a3, vI a4, vI a5, vI a6, vI a7, vI a8, vU, vU, vU] [] s (k s)) : ∀ (F : Nat) (s : z_M) (a9 : Int), G l K mX12_cut 3 63 0 0 100 [vR a0, vU, vU, vI a3, vI a4, vI a5, vI a6, vI a7, vI a8, vI a9, vU, vU] [] s (fX12_cut_L100 fu a0 a3 a4 a5 a6 a7 a8 F s a9 k) := by
  intro F
  induction F with
  | zero => exact fun s a9 h => absurd rfl h
  | succ F ih =>
    intro s a9
    rw [fX12_cut_L100]
    refine G_iload (x := a9) (pc := 100) dX12_cut_100 rfl ?_
    refine G_sipush (pc := 102) dX12_cut_102 ?_
    refine G_icmp_ge (tgt := 122) (pc := 105) dX12_cut_105 ?_ ?_
    · refine G_fg (lv2 := [vR a0, vU, vU, vI a3, vI a4, vI a5, vI a6, vI a7, vI a8, vU, vU, vU]) ⟨Or.inr rfl, Or.inl rfl, Or.inl rfl, Or.inr rfl, Or.inr rfl, Or.inr rfl, Or.inr rfl, Or.inr rfl, Or.inr rfl, Or.inl rfl, Or.inl rfl, Or.inl rfl, trivial⟩ ?_
      exact hk s
    · refine G_aload_n (x := a0) (pc := 108) dX12_cut_108 rfl ?_
      refine G_getR (j := 66) (pc := 109) dX12_cut_109 rfl z_CLX12 (by decide) z_wX12_167 (by decide) (fun x16 => ?_)
      refine G_iload (x := a9) (pc := 112) dX12_cut_112 rfl ?_
      refine G_iconst (pc := 114) dX12_cut_114 ?_
      refine G_iast (pc := 115) dX12_cut_115 (fun s17 => ?_)
      refine G_iinc (x := a9) (g := fun x18 => [vR a0, vU, vU, vI a3, vI a4, vI a5, vI a6, vI a7, vI a8, vI x18, vU, vU]) (pc := 116) dX12_cut_116 rfl (fun _ => rfl) (fun x18 => ?_)
      refine G_goto (tgt := 100) (pc := 119) dX12_cut_119 ?_
      exact ih s17 x18
def fX12_cut_J369 (fu : Nat) (s : z_M) (a0 : Int) (a3 : Int) (a4 : Int) (a5 : Int) (a6 : Int) (a7 : Int) (a8 : Int) (a9 : Int) (r : z_M → Int → Int → Int → Int → Int → z_O) (k : z_M → Int → Int → z_O) : z_O := z_let (z_w (a9 + 1)) (fun x50 => r s a5 a6 a7 a8 x50)
theorem gX12_cut_J369 {l : Launch} {K : z_K} (hst : l.stackTraces = false) (fu : Nat) (s : z_M) (a0 : Int) (a3 : Int) (a4 : Int) (a5 : Int) (a6 : Int) (a7 : Int) (a8 : Int) (a9 : Int) (r : z_M → Int → Int → Int → Int → Int → z_O) (k : z_M → Int → Int → z_O) (hr : ∀ (s : z_M) (a5 : Int) (a6 : Int) (a7 : Int) (a8 : Int) (a9 : Int), G l K mX12_cut 3 63 0 0 125 [vR a0, vU, vU, vI a3, vI a4, vI a5, vI a6, vI a7, vI a8, vI a9, vU, vU] [] s (r s a5 a6 a7 a8 a9)) (hk : ∀ (s : z_M) (a5 : Int) (a6 : Int), G l K mX12_cut 3 63 0 0 375 [vR a0, vU, vU, vU, vU, vI a5, vI a6, vU, vU, vU, vU, vU] [] s (k s a5 a6)) : G l K mX12_cut 3 63 0 0 369 [vR a0, vU, vU, vI a3, vI a4, vI a5, vI a6, vI a7, vI a8, vI a9, vU, vU] [] s (fX12_cut_J369 fu s a0 a3 a4 a5 a6 a7 a8 a9 r k) := by
  unfold fX12_cut_J369
  refine G_iinc (x := a9) (g := fun x50 => [vR a0, vU, vU, vI a3, vI a4, vI a5, vI a6, vI a7, vI a8, vI x50, vU, vU]) (pc := 369) dX12_cut_369 rfl (fun _ => rfl) (fun x50 => ?_)
  refine G_goto (tgt := 125) (pc := 372) dX12_cut_372 ?_
  exact hr s a5 a6 a7 a8 x50
def fX12_cut_J346 (fu : Nat) (s : z_M) (a0 : Int) (a3 : Int) (a4 : Int) (a5 : Int) (a6 : Int) (a7 : Int) (a8 : Int) (a9 : Int) (t0 : Int) (t1 : Int) (t2 : Int) (r : z_M → Int → Int → Int → Int → Int → z_O) (k : z_M → Int → Int → z_O) : z_O := if z_ix t0 100 t1 then z_let (z_up s t0 t1 t2) (fun s42 => if z_ob a0 12 then z_let (z_gr a0 16) (fun x43 => if z_ix x43 103 13 then z_let (z_gr x43 13) (fun x44 => if z_ob a0 12 then z_let (z_gr a0 16) (fun x45 => if z_ix x45 103 0 then z_let (z_gr x45 0) (fun x46 => if z_ix x46 100 a9 then z_let (s42 x46 a9) (fun x47 => if z_ix x44 100 a5 then z_let (z_up s42 x44 a5 x47) (fun s48 => z_let (z_w (a5 + 1)) (fun x49 => fX12_cut_J369 fu s48 a0 a3 a4 x49 a6 a7 a8 a9 (fun w v5 v6 v7 v8 v9 => r w v5 v6 v7 v8 v9) k)) else none) else none) else none) else none) else none) else none) else none
theorem gX12_cut_J346 {l : Launch} {K : z_K} (hst : l.stackTraces = false) (fu : Nat) (s : z_M) (a0 : Int) (a3 : Int) (a4 : Int) (a5 : Int) (a6 : Int) (a7 : Int) (a8 : Int) (a9 : Int) (t0 : Int) (t1 : Int) (t2 : Int) (r : z_M → Int → Int → Int → Int → Int → z_O) (k : z_M → Int → Int → z_O) (hr : ∀ (s : z_M) (a5 : Int) (a6 : Int) (a7 : Int) (a8 : Int) (a9 : Int), G l K mX12_cut 3 63 0 0 125 [vR a0, vU, vU, vI a3, vI a4, vI a5, vI a6, vI a7, vI a8, vI a9, vU, vU] [] s (r s a5 a6 a7 a8 a9)) (hk : ∀ (s : z_M) (a5 : Int) (a6 : Int), G l K mX12_cut 3 63 0 0 375 [vR a0, vU, vU, vU, vU, vI a5, vI a6, vU, vU, vU, vU, vU] [] s (k s a5 a6)) : G l K mX12_cut 3 63 0 0 346 [vR a0, vU, vU, vI a3, vI a4, vI a5, vI a6, vI a7, vI a8, vI a9, vU, vU] [vI t2, vI t1, vR t0] s (fX12_cut_J346 fu s a0 a3 a4 a5 a6 a7 a8 a9 t0 t1 t2 r k) := by
  unfold fX12_cut_J346
  refine G_iast (pc := 346) dX12_cut_346 (fun s42 => ?_)
  refine G_aload_n (x := a0) (pc := 347) dX12_cut_347 rfl ?_
  refine G_getR (j := 16) (pc := 348) dX12_cut_348 rfl z_CLX12 (by decide) z_wX12_43 (by decide) (fun x43 => ?_)
  refine G_bipush (pc := 351) dX12_cut_351 ?_
  refine G_aald103 (pc := 353) dX12_cut_353 (fun x44 => ?_)
  refine G_iload (x := a5) (pc := 354) dX12_cut_354 rfl ?_
  refine G_aload_n (x := a0) (pc := 356) dX12_cut_356 rfl ?_
  refine G_getR (j := 16) (pc := 357) dX12_cut_357 rfl z_CLX12 (by decide) z_wX12_43 (by decide) (fun x45 => ?_)
  refine G_iconst (pc := 360) dX12_cut_360 ?_
  refine G_aald103 (pc := 361) dX12_cut_361 (fun x46 => ?_)
  refine G_iload (x := a9) (pc := 362) dX12_cut_362 rfl ?_
  refine G_iald (pc := 364) dX12_cut_364 (fun x47 => ?_)
  refine G_iast (pc := 365) dX12_cut_365 (fun s48 => ?_)
  refine G_iinc (x := a5) (g := fun x49 => [vR a0, vU, vU, vI a3, vI a4, vI x49, vI a6, vI a7, vI a8, vI a9, vU, vU]) (pc := 366) dX12_cut_366 rfl (fun _ => rfl) (fun x49 => ?_)
  exact gX12_cut_J369 hst fu s48 a0 a3 a4 x49 a6 a7 a8 a9 _ _ (fun w v5 v6 v7 v8 v9 => hr w v5 v6 v7 v8 v9) hk
def fX12_cut_J282 (fu : Nat) (s : z_M) (a0 : Int) (a3 : Int) (a4 : Int) (a5 : Int) (a6 : Int) (a7 : Int) (a8 : Int) (a9 : Int) (a10 : Int) (r : z_M → Int → Int → Int → Int → Int → z_O) (k : z_M → Int → Int → z_O) : z_O := if z_ob a0 12 then z_let (z_gr a0 13) (fun x26 => if z_ix x26 103 13 then z_let (z_gr x26 13) (fun x27 => if z_ob a0 12 then z_let (z_gr a0 13) (fun x28 => if z_ix x28 103 0 then z_let (z_gr x28 0) (fun x29 => if z_ix x29 100 a9 then z_let (s x29 a9) (fun x30 => if z_ix x27 100 a5 then z_let (z_up s x27 a5 x30) (fun s31 => if z_ob a0 12 then z_let (z_gr a0 14) (fun x32 => if z_ix x32 103 13 then z_let (z_gr x32 13) (fun x33 => if z_ob a0 12 then z_let (z_gr a0 14) (fun x34 => if z_ix x34 103 0 then z_let (z_gr x34 0) (fun x35 => if z_ix x35 100 a9 then z_let (s31 x35 a9) (fun x36 => if z_ix x33 100 a5 then z_let (z_up s31 x33 a5 x36) (fun s37 => if z_ob a0 12 then z_let (z_gr a0 15) (fun x38 => if z_ix x38 103 13 then z_let (z_gr x38 13) (fun x39 => if (a10 : Int) ≠ (-1) then (if z_ob a0 12 then z_let (z_gr a0 66) (fun x40 => if z_ix x40 100 a10 then z_let (s37 x40 a10) (fun x41 => fX12_cut_J346 fu s37 a0 a3 a4 a5 a6 a7 a8 a9 x39 a5 x41 (fun w v5 v6 v7 v8 v9 => r w v5 v6 v7 v8 v9) k) else none) else none) else (fX12_cut_J346 fu s37 a0 a3 a4 a5 a6 a7 a8 a9 x39 a5 (-1) (fun w v5 v6 v7 v8 v9 => r w v5 v6 v7 v8 v9) k)) else none) else none) else none) else none) else none) else none) else none) else none) else none) else none) else none) else none) else none) else none
theorem gX12_cut_J282 {l : Launch} {K : z_K} (hst : l.stackTraces = false) (fu : Nat) (s : z_M) (a0 : Int) (a3 : Int) (a4 : Int) (a5 : Int) (a6 : Int) (a7 : Int) (a8 : Int) (a9 : Int) (a10 : Int) (r : z_M → Int → Int → Int → Int → Int → z_O) (k : z_M → Int → Int → z_O) (hr : ∀ (s : z_M) (a5 : Int) (a6 : Int) (a7 : Int) (a8 : Int) (a9 : Int), G l K mX12_cut 3 63 0 0 125 [vR a0, vU, vU, vI a3, vI a4, vI a5, vI a6, vI a7, vI a8, vI a9, vU, vU] [] s (r s a5 a6 a7 a8 a9)) (hk : ∀ (s : z_M) (a5 : Int) (a6 : Int), G l K mX12_cut 3 63 0 0 375 [vR a0, vU, vU, vU, vU, vI a5, vI a6, vU, vU, vU, vU, vU] [] s (k s a5 a6)) : G l K mX12_cut 3 63 0 0 282 [vR a0, vU, vU, vI a3, vI a4, vI a5, vI a6, vI a7, vI a8, vI a9, vI a10, vU] [] s (fX12_cut_J282 fu s a0 a3 a4 a5 a6 a7 a8 a9 a10 r k) := by
  unfold fX12_cut_J282
  refine G_aload_n (x := a0) (pc := 282) dX12_cut_282 rfl ?_
  refine G_getR (j := 13) (pc := 283) dX12_cut_283 rfl z_CLX12 (by decide) z_wX12_34 (by decide) (fun x26 => ?_)
  refine G_bipush (pc := 286) dX12_cut_286 ?_
  refine G_aald103 (pc := 288) dX12_cut_288 (fun x27 => ?_)
  refine G_iload (x := a5) (pc := 289) dX12_cut_289 rfl ?_
  refine G_aload_n (x := a0) (pc := 291) dX12_cut_291 rfl ?_
  refine G_getR (j := 13) (pc := 292) dX12_cut_292 rfl z_CLX12 (by decide) z_wX12_34 (by decide) (fun x28 => ?_)
  refine G_iconst (pc := 295) dX12_cut_295 ?_
  refine G_aald103 (pc := 296) dX12_cut_296 (fun x29 => ?_)
  refine G_iload (x := a9) (pc := 297) dX12_cut_297 rfl ?_
  refine G_iald (pc := 299) dX12_cut_299 (fun x30 => ?_)
  refine G_iast (pc := 300) dX12_cut_300 (fun s31 => ?_)
  refine G_aload_n (x := a0) (pc := 301) dX12_cut_301 rfl ?_
  refine G_getR (j := 14) (pc := 302) dX12_cut_302 rfl z_CLX12 (by decide) z_wX12_37 (by decide) (fun x32 => ?_)
  refine G_bipush (pc := 305) dX12_cut_305 ?_
  refine G_aald103 (pc := 307) dX12_cut_307 (fun x33 => ?_)
  refine G_iload (x := a5) (pc := 308) dX12_cut_308 rfl ?_
  refine G_aload_n (x := a0) (pc := 310) dX12_cut_310 rfl ?_
  refine G_getR (j := 14) (pc := 311) dX12_cut_311 rfl z_CLX12 (by decide) z_wX12_37 (by decide) (fun x34 => ?_)
  refine G_iconst (pc := 314) dX12_cut_314 ?_
  refine G_aald103 (pc := 315) dX12_cut_315 (fun x35 => ?_)
  refine G_iload (x := a9) (pc := 316) dX12_cut_316 rfl ?_
  refine G_iald (pc := 318) dX12_cut_318 (fun x36 => ?_)
  refine G_iast (pc := 319) dX12_cut_319 (fun s37 => ?_)
  refine G_aload_n (x := a0) (pc := 320) dX12_cut_320 rfl ?_
  refine G_getR (j := 15) (pc := 321) dX12_cut_321 rfl z_CLX12 (by decide) z_wX12_40 (by decide) (fun x38 => ?_)
  refine G_bipush (pc := 324) dX12_cut_324 ?_
  refine G_aald103 (pc := 326) dX12_cut_326 (fun x39 => ?_)
  refine G_iload (x := a5) (pc := 327) dX12_cut_327 rfl ?_
  refine G_iload (x := a10) (pc := 329) dX12_cut_329 rfl ?_
  refine G_iconst (pc := 331) dX12_cut_331 ?_
  refine G_icmp_ne (tgt := 339) (pc := 332) dX12_cut_332 ?_ ?_
  · refine G_aload_n (x := a0) (pc := 339) dX12_cut_339 rfl ?_
    refine G_getR (j := 66) (pc := 340) dX12_cut_340 rfl z_CLX12 (by decide) z_wX12_167 (by decide) (fun x40 => ?_)
    refine G_iload (x := a10) (pc := 343) dX12_cut_343 rfl ?_
    refine G_iald (pc := 345) dX12_cut_345 (fun x41 => ?_)
    refine G_fg (lv2 := [vR a0, vU, vU, vI a3, vI a4, vI a5, vI a6, vI a7, vI a8, vI a9, vU, vU]) ⟨Or.inr rfl, Or.inl rfl, Or.inl rfl, Or.inr rfl, Or.inr rfl, Or.inr rfl, Or.inr rfl, Or.inr rfl, Or.inr rfl, Or.inr rfl, Or.inl rfl, Or.inl rfl, trivial⟩ ?_
    exact gX12_cut_J346 hst fu s37 a0 a3 a4 a5 a6 a7 a8 a9 x39 a5 x41 _ _ (fun w v5 v6 v7 v8 v9 => hr w v5 v6 v7 v8 v9) hk
  · refine G_iconst (pc := 335) dX12_cut_335 ?_
    refine G_goto (tgt := 346) (pc := 336) dX12_cut_336 ?_
    refine G_fg (lv2 := [vR a0, vU, vU, vI a3, vI a4, vI a5, vI a6, vI a7, vI a8, vI a9, vU, vU]) ⟨Or.inr rfl, Or.inl rfl, Or.inl rfl, Or.inr rfl, Or.inr rfl, Or.inr rfl, Or.inr rfl, Or.inr rfl, Or.inr rfl, Or.inr rfl, Or.inl rfl, Or.inl rfl, trivial⟩ ?_
    exact gX12_cut_J346 hst fu s37 a0 a3 a4 a5 a6 a7 a8 a9 x39 a5 (-1) _ _ (fun w v5 v6 v7 v8 v9 => hr w v5 v6 v7 v8 v9) hk
def fX12_cut_L241 (fu : Nat) (a0 : Int) (a3 : Int) (a4 : Int) (a5 : Int) (a6 : Int) (a7 : Int) (a8 : Int) (a9 : Int) (a10 : Int) : Nat → z_M → Int → (z_M → z_O) → z_O
  | 0, _, _, _ => none
  | F + 1, s, a11, k => if (20 : Int) ≤ a11 then (k s) else (if z_ob a0 12 then z_let (z_gr a0 18) (fun x65 => if z_ix x65 105 13 then z_let (z_gr x65 13) (fun x66 => if z_ix x66 103 a6 then z_let (z_gr x66 a6) (fun x67 => if z_ob a0 12 then z_let (z_gr a0 18) (fun x68 => if z_ix x68 105 0 then z_let (z_gr x68 0) (fun x69 => if z_ix x69 103 a10 then z_let (z_gr x69 a10) (fun x70 => if z_ix x70 100 a11 then z_let (s x70 a11) (fun x71 => if z_ix x67 100 a11 then z_let (z_up s x67 a11 x71) (fun s72 => z_let (z_w (a11 + 1)) (fun x73 => fX12_cut_L241 fu a0 a3 a4 a5 a6 a7 a8 a9 a10 F s72 x73 k)) else none) else none) else none) else none) else none) else none) else none) else none)
theorem gX12_cut_L241 {l : Launch} {K : z_K} (hst : l.stackTraces = false) (fu : Nat) (a0 : Int) (a3 : Int) (a4 : Int) (a5 : Int) (a6 : Int) (a7 : Int) (a8 : Int) (a9 : Int) (a10 : Int) (k : z_M → z_O) (hk : ∀ (s : z_M), G l K mX12_cut 3 63 0 0 279 [vR a0, vU, vU, vI a3, vI a4, vI a5, vI a6, vI a7, vI a8, vI a9, vI a10, vU] [] s (k s)) : ∀ (F : Nat) (s : z_M) (a11 : Int), G l K mX12_cut 3 63 0 0 241 [vR a0, vU, vU, vI a3, vI a4, vI a5, vI a6, vI a7, vI a8, vI a9, vI a10, vI a11] [] s (fX12_cut_L241 fu a0 a3 a4 a5 a6 a7 a8 a9 a10 F s a11 k) := by
  intro F
  induction F with
  | zero => exact fun s a11 h => absurd rfl h
  | succ F ih =>
    intro s a11
    rw [fX12_cut_L241]
    refine G_iload (x := a11) (pc := 241) dX12_cut_241 rfl ?_
    refine G_bipush (pc := 243) dX12_cut_243 ?_
    refine G_icmp_ge (tgt := 279) (pc := 245) dX12_cut_245 ?_ ?_
    · refine G_fg (lv2 := [vR a0, vU, vU, vI a3, vI a4, vI a5, vI a6, vI a7, vI a8, vI a9, vI a10, vU]) ⟨Or.inr rfl, Or.inl rfl, Or.inl rfl, Or.inr rfl, Or.inr rfl, Or.inr rfl, Or.inr rfl, Or.inr rfl, Or.inr rfl, Or.inr rfl, Or.inr rfl, Or.inl rfl, trivial⟩ ?_
      exact hk s
    · refine G_aload_n (x := a0) (pc := 248) dX12_cut_248 rfl ?_
      refine G_getR (j := 18) (pc := 249) dX12_cut_249 rfl z_CLX12 (by decide) z_wX12_51 (by decide) (fun x65 => ?_)
      refine G_bipush (pc := 252) dX12_cut_252 ?_
      refine G_aald105 (pc := 254) dX12_cut_254 (fun x66 => ?_)
      refine G_iload (x := a6) (pc := 255) dX12_cut_255 rfl ?_
      refine G_aald103 (pc := 257) dX12_cut_257 (fun x67 => ?_)
      refine G_iload (x := a11) (pc := 258) dX12_cut_258 rfl ?_
      refine G_aload_n (x := a0) (pc := 260) dX12_cut_260 rfl ?_
      refine G_getR (j := 18) (pc := 261) dX12_cut_261 rfl z_CLX12 (by decide) z_wX12_51 (by decide) (fun x68 => ?_)
      refine G_iconst (pc := 264) dX12_cut_264 ?_
      refine G_aald105 (pc := 265) dX12_cut_265 (fun x69 => ?_)
      refine G_iload (x := a10) (pc := 266) dX12_cut_266 rfl ?_
      refine G_aald103 (pc := 268) dX12_cut_268 (fun x70 => ?_)
      refine G_iload (x := a11) (pc := 269) dX12_cut_269 rfl ?_
      refine G_iald (pc := 271) dX12_cut_271 (fun x71 => ?_)
      refine G_iast (pc := 272) dX12_cut_272 (fun s72 => ?_)
      refine G_iinc (x := a11) (g := fun x73 => [vR a0, vU, vU, vI a3, vI a4, vI a5, vI a6, vI a7, vI a8, vI a9, vI a10, vI x73]) (pc := 273) dX12_cut_273 rfl (fun _ => rfl) (fun x73 => ?_)
      refine G_goto (tgt := 241) (pc := 276) dX12_cut_276 ?_
      exact ih s72 x73
def fX12_cut_J212 (fu : Nat) (s : z_M) (a0 : Int) (a3 : Int) (a4 : Int) (a5 : Int) (a6 : Int) (a9 : Int) (a10 : Int) (t0 : Int) (t1 : Int) (r : z_M → Int → Int → Int → Int → Int → z_O) (k : z_M → Int → Int → z_O) : z_O := z_let (z_w (t0 + t1)) (fun x58 => if z_ob a0 12 then z_let (z_gr a0 17) (fun x59 => if z_ix x59 103 0 then z_let (z_gr x59 0) (fun x60 => if z_ix x60 100 a10 then z_let (s x60 a10) (fun x61 => if z_ob a0 12 then z_let (z_gr a0 17) (fun x62 => if z_ix x62 103 13 then z_let (z_gr x62 13) (fun x63 => if z_ix x63 100 a6 then z_let (z_up s x63 a6 x58) (fun s64 => fX12_cut_L241 fu a0 a3 a4 a5 a6 x58 x61 a9 a10 fu s64 0 (fun s74 => z_let (z_w (a6 + 1)) (fun x75 => fX12_cut_J282 fu s74 a0 a3 a4 a5 x75 x58 x61 a9 a10 (fun w v5 v6 v7 v8 v9 => r w v5 v6 v7 v8 v9) k))) else none) else none) else none) else none) else none) else none)
theorem gX12_cut_J212 {l : Launch} {K : z_K} (hst : l.stackTraces = false) (fu : Nat) (s : z_M) (a0 : Int) (a3 : Int) (a4 : Int) (a5 : Int) (a6 : Int) (a9 : Int) (a10 : Int) (t0 : Int) (t1 : Int) (r : z_M → Int → Int → Int → Int → Int → z_O) (k : z_M → Int → Int → z_O) (hr : ∀ (s : z_M) (a5 : Int) (a6 : Int) (a7 : Int) (a8 : Int) (a9 : Int), G l K mX12_cut 3 63 0 0 125 [vR a0, vU, vU, vI a3, vI a4, vI a5, vI a6, vI a7, vI a8, vI a9, vU, vU] [] s (r s a5 a6 a7 a8 a9)) (hk : ∀ (s : z_M) (a5 : Int) (a6 : Int), G l K mX12_cut 3 63 0 0 375 [vR a0, vU, vU, vU, vU, vI a5, vI a6, vU, vU, vU, vU, vU] [] s (k s a5 a6)) : G l K mX12_cut 3 63 0 0 212 [vR a0, vU, vU, vI a3, vI a4, vI a5, vI a6, vU, vU, vI a9, vI a10, vU] [vI t1, vI t0] s (fX12_cut_J212 fu s a0 a3 a4 a5 a6 a9 a10 t0 t1 r k) := by
  unfold fX12_cut_J212
  refine G_iadd (pc := 212) dX12_cut_212 (fun x58 => ?_)
  refine G_istore (lv' := [vR a0, vU, vU, vI a3, vI a4, vI a5, vI a6, vI x58, vU, vI a9, vI a10, vU]) (pc := 213) dX12_cut_213 rfl ?_
  refine G_aload_n (x := a0) (pc := 215) dX12_cut_215 rfl ?_
  refine G_getR (j := 17) (pc := 216) dX12_cut_216 rfl z_CLX12 (by decide) z_wX12_46 (by decide) (fun x59 => ?_)
  refine G_iconst (pc := 219) dX12_cut_219 ?_
  refine G_aald103 (pc := 220) dX12_cut_220 (fun x60 => ?_)
  refine G_iload (x := a10) (pc := 221) dX12_cut_221 rfl ?_
  refine G_iald (pc := 223) dX12_cut_223 (fun x61 => ?_)
  refine G_istore (lv' := [vR a0, vU, vU, vI a3, vI a4, vI a5, vI a6, vI x58, vI x61, vI a9, vI a10, vU]) (pc := 224) dX12_cut_224 rfl ?_
  refine G_aload_n (x := a0) (pc := 226) dX12_cut_226 rfl ?_
  refine G_getR (j := 17) (pc := 227) dX12_cut_227 rfl z_CLX12 (by decide) z_wX12_46 (by decide) (fun x62 => ?_)
  refine G_bipush (pc := 230) dX12_cut_230 ?_
  refine G_aald103 (pc := 232) dX12_cut_232 (fun x63 => ?_)
  refine G_iload (x := a6) (pc := 233) dX12_cut_233 rfl ?_
  refine G_iload (x := x58) (pc := 235) dX12_cut_235 rfl ?_
  refine G_iast (pc := 237) dX12_cut_237 (fun s64 => ?_)
  refine G_iconst (pc := 238) dX12_cut_238 ?_
  refine G_istore (lv' := [vR a0, vU, vU, vI a3, vI a4, vI a5, vI a6, vI x58, vI x61, vI a9, vI a10, vI 0]) (pc := 239) dX12_cut_239 rfl ?_
  refine gX12_cut_L241 hst fu a0 a3 a4 a5 a6 x58 x61 a9 a10 _ (fun s74 => ?_) fu s64 0
  refine G_iinc (x := a6) (g := fun x75 => [vR a0, vU, vU, vI a3, vI a4, vI a5, vI x75, vI x58, vI x61, vI a9, vI a10, vU]) (pc := 279) dX12_cut_279 rfl (fun _ => rfl) (fun x75 => ?_)
  exact gX12_cut_J282 hst fu s74 a0 a3 a4 a5 x75 x58 x61 a9 a10 _ _ (fun w v5 v6 v7 v8 v9 => hr w v5 v6 v7 v8 v9) hk
def fX12_cut_J154 (fu : Nat) (s : z_M) (a0 : Int) (a3 : Int) (a4 : Int) (a5 : Int) (a6 : Int) (a7 : Int) (a8 : Int) (a9 : Int) (r : z_M → Int → Int → Int → Int → Int → z_O) (k : z_M → Int → Int → z_O) : z_O := if z_ob a0 12 then z_let (z_gr a0 15) (fun x23 => if z_ix x23 103 0 then z_let (z_gr x23 0) (fun x24 => if z_ix x24 100 a9 then z_let (s x24 a9) (fun x25 => if (x25 : Int) = (-1) then (fX12_cut_J282 fu s a0 a3 a4 a5 a6 a7 a8 a9 x25 (fun w v5 v6 v7 v8 v9 => r w v5 v6 v7 v8 v9) k) else (if z_ob a0 12 then z_let (z_gr a0 66) (fun x51 => if z_ix x51 100 x25 then z_let (s x51 x25) (fun x52 => if (x52 : Int) ≠ (-1) then (fX12_cut_J282 fu s a0 a3 a4 a5 a6 a7 a8 a9 x25 (fun w v5 v6 v7 v8 v9 => r w v5 v6 v7 v8 v9) k) else (if z_ob a0 12 then z_let (z_gr a0 66) (fun x53 => if z_ix x53 100 x25 then z_let (z_up s x53 x25 a6) (fun s54 => if z_ob a0 12 then z_let (z_gr a0 17) (fun x55 => if z_ix x55 103 0 then z_let (z_gr x55 0) (fun x56 => if z_ix x56 100 x25 then z_let (s54 x56 x25) (fun x57 => if (x57 : Int) ≠ a8 then (fX12_cut_J212 fu s54 a0 a3 a4 a5 a6 a9 x25 a7 1 (fun w v5 v6 v7 v8 v9 => r w v5 v6 v7 v8 v9) k) else (fX12_cut_J212 fu s54 a0 a3 a4 a5 a6 a9 x25 a7 0 (fun w v5 v6 v7 v8 v9 => r w v5 v6 v7 v8 v9) k)) else none) else none) else none) else none) else none)) else none) else none)) else none) else none) else none
theorem gX12_cut_J154 {l : Launch} {K : z_K} (hst : l.stackTraces = false) (fu : Nat) (s : z_M) (a0 : Int) (a3 : Int) (a4 : Int) (a5 : Int) (a6 : Int) (a7 : Int) (a8 : Int) (a9 : Int) (r : z_M → Int → Int → Int → Int → Int → z_O) (k : z_M → Int → Int → z_O) (hr : ∀ (s : z_M) (a5 : Int) (a6 : Int) (a7 : Int) (a8 : Int) (a9 : Int), G l K mX12_cut 3 63 0 0 125 [vR a0, vU, vU, vI a3, vI a4, vI a5, vI a6, vI a7, vI a8, vI a9, vU, vU] [] s (r s a5 a6 a7 a8 a9)) (hk : ∀ (s : z_M) (a5 : Int) (a6 : Int), G l K mX12_cut 3 63 0 0 375 [vR a0, vU, vU, vU, vU, vI a5, vI a6, vU, vU, vU, vU, vU] [] s (k s a5 a6)) : G l K mX12_cut 3 63 0 0 154 [vR a0, vU, vU, vI a3, vI a4, vI a5, vI a6, vI a7, vI a8, vI a9, vU, vU] [] s (fX12_cut_J154 fu s a0 a3 a4 a5 a6 a7 a8 a9 r k) := by
  unfold fX12_cut_J154
  refine G_aload_n (x := a0) (pc := 154) dX12_cut_154 rfl ?_
  refine G_getR (j := 15) (pc := 155) dX12_cut_155 rfl z_CLX12 (by decide) z_wX12_40 (by decide) (fun x23 => ?_)
  refine G_iconst (pc := 158) dX12_cut_158 ?_
  refine G_aald103 (pc := 159) dX12_cut_159 (fun x24 => ?_)
  refine G_iload (x := a9) (pc := 160) dX12_cut_160 rfl ?_
  refine G_iald (pc := 162) dX12_cut_162 (fun x25 => ?_)
  refine G_istore (lv' := [vR a0, vU, vU, vI a3, vI a4, vI a5, vI a6, vI a7, vI a8, vI a9, vI x25, vU]) (pc := 163) dX12_cut_163 rfl ?_
  refine G_iload (x := x25) (pc := 165) dX12_cut_165 rfl ?_
  refine G_iconst (pc := 167) dX12_cut_167 ?_
  refine G_icmp_eq (tgt := 282) (pc := 168) dX12_cut_168 ?_ ?_
  · exact gX12_cut_J282 hst fu s a0 a3 a4 a5 a6 a7 a8 a9 x25 _ _ (fun w v5 v6 v7 v8 v9 => hr w v5 v6 v7 v8 v9) hk
  · refine G_aload_n (x := a0) (pc := 171) dX12_cut_171 rfl ?_
    refine G_getR (j := 66) (pc := 172) dX12_cut_172 rfl z_CLX12 (by decide) z_wX12_167 (by decide) (fun x51 => ?_)
    refine G_iload (x := x25) (pc := 175) dX12_cut_175 rfl ?_
    refine G_iald (pc := 177) dX12_cut_177 (fun x52 => ?_)
    refine G_iconst (pc := 178) dX12_cut_178 ?_
    refine G_icmp_ne (tgt := 282) (pc := 179) dX12_cut_179 ?_ ?_
    · exact gX12_cut_J282 hst fu s a0 a3 a4 a5 a6 a7 a8 a9 x25 _ _ (fun w v5 v6 v7 v8 v9 => hr w v5 v6 v7 v8 v9) hk
    · refine G_aload_n (x := a0) (pc := 182) dX12_cut_182 rfl ?_
      refine G_getR (j := 66) (pc := 183) dX12_cut_183 rfl z_CLX12 (by decide) z_wX12_167 (by decide) (fun x53 => ?_)
      refine G_iload (x := x25) (pc := 186) dX12_cut_186 rfl ?_
      refine G_iload (x := a6) (pc := 188) dX12_cut_188 rfl ?_
      refine G_iast (pc := 190) dX12_cut_190 (fun s54 => ?_)
      refine G_iload (x := a7) (pc := 191) dX12_cut_191 rfl ?_
      refine G_aload_n (x := a0) (pc := 193) dX12_cut_193 rfl ?_
      refine G_getR (j := 17) (pc := 194) dX12_cut_194 rfl z_CLX12 (by decide) z_wX12_46 (by decide) (fun x55 => ?_)
      refine G_iconst (pc := 197) dX12_cut_197 ?_
      refine G_aald103 (pc := 198) dX12_cut_198 (fun x56 => ?_)
      refine G_iload (x := x25) (pc := 199) dX12_cut_199 rfl ?_
      refine G_iald (pc := 201) dX12_cut_201 (fun x57 => ?_)
      refine G_iload (x := a8) (pc := 202) dX12_cut_202 rfl ?_
      refine G_icmp_ne (tgt := 211) (pc := 204) dX12_cut_204 ?_ ?_
      · refine G_iconst (pc := 211) dX12_cut_211 ?_
        refine G_fg (lv2 := [vR a0, vU, vU, vI a3, vI a4, vI a5, vI a6, vU, vU, vI a9, vI x25, vU]) ⟨Or.inr rfl, Or.inl rfl, Or.inl rfl, Or.inr rfl, Or.inr rfl, Or.inr rfl, Or.inr rfl, Or.inl rfl, Or.inl rfl, Or.inr rfl, Or.inr rfl, Or.inl rfl, trivial⟩ ?_
        exact gX12_cut_J212 hst fu s54 a0 a3 a4 a5 a6 a9 x25 a7 1 _ _ (fun w v5 v6 v7 v8 v9 => hr w v5 v6 v7 v8 v9) hk
      · refine G_iconst (pc := 207) dX12_cut_207 ?_
        refine G_goto (tgt := 212) (pc := 208) dX12_cut_208 ?_
        refine G_fg (lv2 := [vR a0, vU, vU, vI a3, vI a4, vI a5, vI a6, vU, vU, vI a9, vI x25, vU]) ⟨Or.inr rfl, Or.inl rfl, Or.inl rfl, Or.inr rfl, Or.inr rfl, Or.inr rfl, Or.inr rfl, Or.inl rfl, Or.inl rfl, Or.inr rfl, Or.inr rfl, Or.inl rfl, trivial⟩ ?_
        exact gX12_cut_J212 hst fu s54 a0 a3 a4 a5 a6 a9 x25 a7 0 _ _ (fun w v5 v6 v7 v8 v9 => hr w v5 v6 v7 v8 v9) hk
def fX12_cut_L125 (fu : Nat) (a0 : Int) (a3 : Int) (a4 : Int) : Nat → z_M → Int → Int → Int → Int → Int → (z_M → Int → Int → z_O) → z_O
  | 0, _, _, _, _, _, _, _ => none
  | F + 1, s, a5, a6, a7, a8, a9, k => if z_ob a0 12 then z_let (z_gr a0 12) (fun x20 => if z_ix x20 103 0 then z_let (z_gr x20 0) (fun x21 => if z_ix x21 100 0 then z_let (s x21 0) (fun x22 => if (x22 : Int) ≤ a9 then (k s a5 a6) else (if (a9 : Int) < a3 then (fX12_cut_J154 fu s a0 a3 a4 a5 a6 a7 a8 a9 (fun w v5 v6 v7 v8 v9 => fX12_cut_L125 fu a0 a3 a4 F w v5 v6 v7 v8 v9 k) k) else (if (a4 : Int) ≤ a9 then (fX12_cut_J154 fu s a0 a3 a4 a5 a6 a7 a8 a9 (fun w v5 v6 v7 v8 v9 => fX12_cut_L125 fu a0 a3 a4 F w v5 v6 v7 v8 v9 k) k) else (fX12_cut_J369 fu s a0 a3 a4 a5 a6 a7 a8 a9 (fun w v5 v6 v7 v8 v9 => fX12_cut_L125 fu a0 a3 a4 F w v5 v6 v7 v8 v9 k) k)))) else none) else none) else none
theorem gX12_cut_L125 {l : Launch} {K : z_K} (hst : l.stackTraces = false) (fu : Nat) (a0 : Int) (a3 : Int) (a4 : Int) (k : z_M → Int → Int → z_O) (hk : ∀ (s : z_M) (a5 : Int) (a6 : Int), G l K mX12_cut 3 63 0 0 375 [vR a0, vU, vU, vU, vU, vI a5, vI a6, vU, vU, vU, vU, vU] [] s (k s a5 a6)) : ∀ (F : Nat) (s : z_M) (a5 : Int) (a6 : Int) (a7 : Int) (a8 : Int) (a9 : Int), G l K mX12_cut 3 63 0 0 125 [vR a0, vU, vU, vI a3, vI a4, vI a5, vI a6, vI a7, vI a8, vI a9, vU, vU] [] s (fX12_cut_L125 fu a0 a3 a4 F s a5 a6 a7 a8 a9 k) := by
  intro F
  induction F with
  | zero => exact fun s a5 a6 a7 a8 a9 h => absurd rfl h
  | succ F ih =>
    intro s a5 a6 a7 a8 a9
    rw [fX12_cut_L125]
    refine G_iload (x := a9) (pc := 125) dX12_cut_125 rfl ?_
    refine G_aload_n (x := a0) (pc := 127) dX12_cut_127 rfl ?_
    refine G_getR (j := 12) (pc := 128) dX12_cut_128 rfl z_CLX12 (by decide) z_wX12_31 (by decide) (fun x20 => ?_)
    refine G_iconst (pc := 131) dX12_cut_131 ?_
    refine G_aald103 (pc := 132) dX12_cut_132 (fun x21 => ?_)
    refine G_iconst (pc := 133) dX12_cut_133 ?_
    refine G_iald (pc := 134) dX12_cut_134 (fun x22 => ?_)
    refine G_icmp_ge (tgt := 375) (pc := 135) dX12_cut_135 ?_ ?_
    · refine G_fg (lv2 := [vR a0, vU, vU, vU, vU, vI a5, vI a6, vU, vU, vU, vU, vU]) ⟨Or.inr rfl, Or.inl rfl, Or.inl rfl, Or.inl rfl, Or.inl rfl, Or.inr rfl, Or.inr rfl, Or.inl rfl, Or.inl rfl, Or.inl rfl, Or.inl rfl, Or.inl rfl, trivial⟩ ?_
      exact hk s a5 a6
    · refine G_iload (x := a9) (pc := 138) dX12_cut_138 rfl ?_
      refine G_iload_n (x := a3) (pc := 140) dX12_cut_140 rfl ?_
      refine G_icmp_lt (tgt := 154) (pc := 141) dX12_cut_141 ?_ ?_
      · exact gX12_cut_J154 hst fu s a0 a3 a4 a5 a6 a7 a8 a9 _ _ (fun w v5 v6 v7 v8 v9 => ih w v5 v6 v7 v8 v9) hk
      · refine G_iload (x := a9) (pc := 144) dX12_cut_144 rfl ?_
        refine G_iload (x := a4) (pc := 146) dX12_cut_146 rfl ?_
        refine G_icmp_ge (tgt := 154) (pc := 148) dX12_cut_148 ?_ ?_
        · exact gX12_cut_J154 hst fu s a0 a3 a4 a5 a6 a7 a8 a9 _ _ (fun w v5 v6 v7 v8 v9 => ih w v5 v6 v7 v8 v9) hk
        · refine G_goto (tgt := 369) (pc := 151) dX12_cut_151 ?_
          exact gX12_cut_J369 hst fu s a0 a3 a4 a5 a6 a7 a8 a9 _ _ (fun w v5 v6 v7 v8 v9 => ih w v5 v6 v7 v8 v9) hk
def fX12_cut_J46 (fu : Nat) (s : z_M) (a0 : Int) (a1 : Int) (a2 : Int) (t0 : Int) (t1 : Int) : z_O := if z_ob t0 12 then z_bI (fX12_bad fu s t0 t1 2 1) (fun x7 s6 => if (x7 : Int) = 0 then (if z_ob a0 12 then z_bN (fX12_copies fu s6 a0 0 13) (fun s8 => if z_ob a0 12 then z_let (z_gr a0 22) (fun x9 => if z_ix x9 100 a1 then z_let (s8 x9 a1) (fun x10 => if z_ob a0 12 then z_let (z_gr a0 22) (fun x11 => if z_ix x11 100 a2 then z_let (s8 x11 a2) (fun x12 => if z_ob a0 12 then z_let (z_gr a0 23) (fun x13 => if z_ix x13 100 a2 then z_let (s8 x13 a2) (fun x14 => z_let (z_w (x12 + x14)) (fun x15 => fX12_cut_L100 fu a0 x10 x15 0 0 (-1) (-1) fu s8 0 (fun s19 => fX12_cut_L125 fu a0 x10 x15 fu s19 0 0 (-1) (-1) 0 (fun s76 x77 x78 => if z_ob a0 12 then z_let (z_gr a0 12) (fun x79 => if z_ix x79 103 13 then z_let (z_gr x79 13) (fun x80 => if z_ix x80 100 0 then z_let (z_up s76 x80 0 x77) (fun s81 => if z_ob a0 12 then z_let (z_gr a0 12) (fun x82 => if z_ix x82 103 13 then z_let (z_gr x82 13) (fun x83 => if z_ix x83 100 1 then z_let (z_up s81 x83 1 x78) (fun s84 => if z_ob a0 12 then z_bN (fX12_stands fu s84 a0) (fun s85 => if z_ob a0 12 then z_let (s85 a0 20) (fun x86 => some (vI x86, s85)) else none) else none) else none) else none) else none) else none) else none) else none)))) else none) else none) else none) else none) else none) else none) else none) else (fX12_cut_J54 fu s6)) else none
theorem gX12_cut_J46 {l : Launch} {K : z_K} (hst : l.stackTraces = false) (fu : Nat) (s : z_M) (a0 : Int) (a1 : Int) (a2 : Int) (t0 : Int) (t1 : Int) : G l K mX12_cut 3 63 0 0 46 [vR a0, vI a1, vI a2, vU, vU, vU, vU, vU, vU, vU, vU, vU] [vI t1, vR t0] s (fX12_cut_J46 fu s a0 a1 a2 t0 t1) := by
  unfold fX12_cut_J46
  refine G_iconst (pc := 46) dX12_cut_46 ?_
  refine G_iconst (pc := 47) dX12_cut_47 ?_
  refine G_callVI (as := [vI t1, vI 2, vI 1]) (st := []) (c := 12) (bc2 := 0) (bs2 := 0) (pc := 48) dX12_cut_48 z_mX12_bad z_vX12_bad z_wX12_249 (gX12_bad hst fu s t0 t1 2 1) rfl rfl (by decide) rfl rfl ⟨by decide, by decide, by decide, by decide, Nat.le_of_ble_eq_true rfl⟩ rfl (fun x7 s6 => ?_)
  refine G_if_eq (tgt := 56) (pc := 51) dX12_cut_51 ?_ ?_
  · refine G_aload_n (x := a0) (pc := 56) dX12_cut_56 rfl ?_
    refine G_iconst (pc := 57) dX12_cut_57 ?_
    refine G_bipush (pc := 58) dX12_cut_58 ?_
    refine G_callVN (as := [vI 0, vI 13]) (st := []) (c := 12) (bc2 := 0) (bs2 := 0) (pc := 60) dX12_cut_60 z_mX12_copies z_vX12_copies z_wX12_230 (gX12_copies hst fu s6 a0 0 13) rfl rfl (by decide) rfl rfl ⟨by decide, by decide, by decide, by decide, Nat.le_of_ble_eq_true rfl⟩ rfl (fun s8 => ?_)
    refine G_aload_n (x := a0) (pc := 63) dX12_cut_63 rfl ?_
    refine G_getR (j := 22) (pc := 64) dX12_cut_64 rfl z_CLX12 (by decide) z_wX12_57 (by decide) (fun x9 => ?_)
    refine G_iload_n (x := a1) (pc := 67) dX12_cut_67 rfl ?_
    refine G_iald (pc := 68) dX12_cut_68 (fun x10 => ?_)
    refine G_istore_n (lv' := [vR a0, vI a1, vI a2, vI x10, vU, vU, vU, vU, vU, vU, vU, vU]) (pc := 69) dX12_cut_69 rfl ?_
    refine G_aload_n (x := a0) (pc := 70) dX12_cut_70 rfl ?_
    refine G_getR (j := 22) (pc := 71) dX12_cut_71 rfl z_CLX12 (by decide) z_wX12_57 (by decide) (fun x11 => ?_)
    refine G_iload_n (x := a2) (pc := 74) dX12_cut_74 rfl ?_
    refine G_iald (pc := 75) dX12_cut_75 (fun x12 => ?_)
    refine G_aload_n (x := a0) (pc := 76) dX12_cut_76 rfl ?_
    refine G_getR (j := 23) (pc := 77) dX12_cut_77 rfl z_CLX12 (by decide) z_wX12_60 (by decide) (fun x13 => ?_)
    refine G_iload_n (x := a2) (pc := 80) dX12_cut_80 rfl ?_
    refine G_iald (pc := 81) dX12_cut_81 (fun x14 => ?_)
    refine G_iadd (pc := 82) dX12_cut_82 (fun x15 => ?_)
    refine G_istore (lv' := [vR a0, vI a1, vI a2, vI x10, vI x15, vU, vU, vU, vU, vU, vU, vU]) (pc := 83) dX12_cut_83 rfl ?_
    refine G_iconst (pc := 85) dX12_cut_85 ?_
    refine G_istore (lv' := [vR a0, vI a1, vI a2, vI x10, vI x15, vI 0, vU, vU, vU, vU, vU, vU]) (pc := 86) dX12_cut_86 rfl ?_
    refine G_iconst (pc := 88) dX12_cut_88 ?_
    refine G_istore (lv' := [vR a0, vI a1, vI a2, vI x10, vI x15, vI 0, vI 0, vU, vU, vU, vU, vU]) (pc := 89) dX12_cut_89 rfl ?_
    refine G_iconst (pc := 91) dX12_cut_91 ?_
    refine G_istore (lv' := [vR a0, vI a1, vI a2, vI x10, vI x15, vI 0, vI 0, vI (-1), vU, vU, vU, vU]) (pc := 92) dX12_cut_92 rfl ?_
    refine G_iconst (pc := 94) dX12_cut_94 ?_
    refine G_istore (lv' := [vR a0, vI a1, vI a2, vI x10, vI x15, vI 0, vI 0, vI (-1), vI (-1), vU, vU, vU]) (pc := 95) dX12_cut_95 rfl ?_
    refine G_iconst (pc := 97) dX12_cut_97 ?_
    refine G_istore (lv' := [vR a0, vI a1, vI a2, vI x10, vI x15, vI 0, vI 0, vI (-1), vI (-1), vI 0, vU, vU]) (pc := 98) dX12_cut_98 rfl ?_
    refine G_fg (lv2 := [vR a0, vU, vU, vI x10, vI x15, vI 0, vI 0, vI (-1), vI (-1), vI 0, vU, vU]) ⟨Or.inr rfl, Or.inl rfl, Or.inl rfl, Or.inr rfl, Or.inr rfl, Or.inr rfl, Or.inr rfl, Or.inr rfl, Or.inr rfl, Or.inr rfl, Or.inl rfl, Or.inl rfl, trivial⟩ ?_
    refine gX12_cut_L100 hst fu a0 x10 x15 0 0 (-1) (-1) _ (fun s19 => ?_) fu s8 0
    refine G_iconst (pc := 122) dX12_cut_122 ?_
    refine G_istore (lv' := [vR a0, vU, vU, vI x10, vI x15, vI 0, vI 0, vI (-1), vI (-1), vI 0, vU, vU]) (pc := 123) dX12_cut_123 rfl ?_
    refine gX12_cut_L125 hst fu a0 x10 x15 _ (fun s76 x77 x78 => ?_) fu s19 0 0 (-1) (-1) 0
    refine G_aload_n (x := a0) (pc := 375) dX12_cut_375 rfl ?_
    refine G_getR (j := 12) (pc := 376) dX12_cut_376 rfl z_CLX12 (by decide) z_wX12_31 (by decide) (fun x79 => ?_)
    refine G_bipush (pc := 379) dX12_cut_379 ?_
    refine G_aald103 (pc := 381) dX12_cut_381 (fun x80 => ?_)
    refine G_iconst (pc := 382) dX12_cut_382 ?_
    refine G_iload (x := x77) (pc := 383) dX12_cut_383 rfl ?_
    refine G_iast (pc := 385) dX12_cut_385 (fun s81 => ?_)
    refine G_aload_n (x := a0) (pc := 386) dX12_cut_386 rfl ?_
    refine G_getR (j := 12) (pc := 387) dX12_cut_387 rfl z_CLX12 (by decide) z_wX12_31 (by decide) (fun x82 => ?_)
    refine G_bipush (pc := 390) dX12_cut_390 ?_
    refine G_aald103 (pc := 392) dX12_cut_392 (fun x83 => ?_)
    refine G_iconst (pc := 393) dX12_cut_393 ?_
    refine G_iload (x := x78) (pc := 394) dX12_cut_394 rfl ?_
    refine G_iast (pc := 396) dX12_cut_396 (fun s84 => ?_)
    refine G_aload_n (x := a0) (pc := 397) dX12_cut_397 rfl ?_
    refine G_callVN (as := []) (st := []) (c := 12) (bc2 := 0) (bs2 := 0) (pc := 398) dX12_cut_398 z_mX12_stands z_vX12_stands z_wX12_239 (gX12_stands hst fu s84 a0) rfl rfl (by decide) rfl rfl ⟨by decide, by decide, by decide, by decide, Nat.le_of_ble_eq_true rfl⟩ rfl (fun s85 => ?_)
    refine G_aload_n (x := a0) (pc := 401) dX12_cut_401 rfl ?_
    refine G_getI (j := 20) (pc := 402) dX12_cut_402 rfl z_CLX12 (by decide) z_wX12_242 (by decide) (fun x86 => ?_)
    exact G_iret (pc := 405) dX12_cut_405
  · refine G_fg (lv2 := [vU, vU, vU, vU, vU, vU, vU, vU, vU, vU, vU, vU]) ⟨Or.inl rfl, Or.inl rfl, Or.inl rfl, Or.inl rfl, Or.inl rfl, Or.inl rfl, Or.inl rfl, Or.inl rfl, Or.inl rfl, Or.inl rfl, Or.inl rfl, Or.inl rfl, trivial⟩ ?_
    exact gX12_cut_J54 hst fu s6
def fX12_cut_J27 (fu : Nat) (s : z_M) (a0 : Int) (a1 : Int) (a2 : Int) (t0 : Int) (t1 : Int) : z_O := if z_ob t0 12 then z_bI (fX12_bad fu s t0 t1 1 0) (fun x5 s4 => if (x5 : Int) ≠ 0 then (fX12_cut_J54 fu s4) else (if (a1 : Int) ≤ a2 then (fX12_cut_J46 fu s4 a0 a1 a2 a0 0) else (fX12_cut_J46 fu s4 a0 a1 a2 a0 1))) else none
theorem gX12_cut_J27 {l : Launch} {K : z_K} (hst : l.stackTraces = false) (fu : Nat) (s : z_M) (a0 : Int) (a1 : Int) (a2 : Int) (t0 : Int) (t1 : Int) : G l K mX12_cut 3 63 0 0 27 [vR a0, vI a1, vI a2, vU, vU, vU, vU, vU, vU, vU, vU, vU] [vI t1, vR t0] s (fX12_cut_J27 fu s a0 a1 a2 t0 t1) := by
  unfold fX12_cut_J27
  refine G_iconst (pc := 27) dX12_cut_27 ?_
  refine G_iconst (pc := 28) dX12_cut_28 ?_
  refine G_callVI (as := [vI t1, vI 1, vI 0]) (st := []) (c := 12) (bc2 := 0) (bs2 := 0) (pc := 29) dX12_cut_29 z_mX12_bad z_vX12_bad z_wX12_249 (gX12_bad hst fu s t0 t1 1 0) rfl rfl (by decide) rfl rfl ⟨by decide, by decide, by decide, by decide, Nat.le_of_ble_eq_true rfl⟩ rfl (fun x5 s4 => ?_)
  refine G_if_ne (tgt := 54) (pc := 32) dX12_cut_32 ?_ ?_
  · refine G_fg (lv2 := [vU, vU, vU, vU, vU, vU, vU, vU, vU, vU, vU, vU]) ⟨Or.inl rfl, Or.inl rfl, Or.inl rfl, Or.inl rfl, Or.inl rfl, Or.inl rfl, Or.inl rfl, Or.inl rfl, Or.inl rfl, Or.inl rfl, Or.inl rfl, Or.inl rfl, trivial⟩ ?_
    exact gX12_cut_J54 hst fu s4
  · refine G_aload_n (x := a0) (pc := 35) dX12_cut_35 rfl ?_
    refine G_iload_n (x := a2) (pc := 36) dX12_cut_36 rfl ?_
    refine G_iload_n (x := a1) (pc := 37) dX12_cut_37 rfl ?_
    refine G_icmp_ge (tgt := 45) (pc := 38) dX12_cut_38 ?_ ?_
    · refine G_iconst (pc := 45) dX12_cut_45 ?_
      exact gX12_cut_J46 hst fu s4 a0 a1 a2 a0 0
    · refine G_iconst (pc := 41) dX12_cut_41 ?_
      refine G_goto (tgt := 46) (pc := 42) dX12_cut_42 ?_
      exact gX12_cut_J46 hst fu s4 a0 a1 a2 a0 1
def fX12_cut_J22 (fu : Nat) (s : z_M) (a0 : Int) (a1 : Int) (a2 : Int) (t0 : Int) : z_O := fX12_cut_J27 fu s a0 a1 a2 t0 1
theorem gX12_cut_J22 {l : Launch} {K : z_K} (hst : l.stackTraces = false) (fu : Nat) (s : z_M) (a0 : Int) (a1 : Int) (a2 : Int) (t0 : Int) : G l K mX12_cut 3 63 0 0 22 [vR a0, vI a1, vI a2, vU, vU, vU, vU, vU, vU, vU, vU, vU] [vR t0] s (fX12_cut_J22 fu s a0 a1 a2 t0) := by
  unfold fX12_cut_J22
  refine G_iconst (pc := 22) dX12_cut_22 ?_
  refine G_goto (tgt := 27) (pc := 23) dX12_cut_23 ?_
  exact gX12_cut_J27 hst fu s a0 a1 a2 t0 1
def fX12_cut (fu : Nat) (s : z_M) (a0 : Int) (a1 : Int) (a2 : Int) : z_O := if z_ob a0 12 then z_let (z_up s a0 0 0) (fun s1 => if z_ob a0 12 then z_bI (fX12_isUnit fu s1 a0 a1) (fun x3 s2 => if (x3 : Int) = 0 then (fX12_cut_J22 fu s2 a0 a1 a2 a0) else (if z_ob a0 12 then z_bI (fX12_isUnit fu s2 a0 a2) (fun x88 s87 => if (x88 : Int) ≠ 0 then (fX12_cut_J27 fu s87 a0 a1 a2 a0 0) else (fX12_cut_J22 fu s87 a0 a1 a2 a0)) else none)) else none) else none
theorem gX12_cut {l : Launch} {K : z_K} (hst : l.stackTraces = false) (fu : Nat) (s : z_M) (a0 : Int) (a1 : Int) (a2 : Int) : z_D l K mX12_cut 3 63 0 0 [vR a0, vI a1, vI a2] s (fX12_cut fu s a0 a1 a2) := by
  refine z_D_of (lv := [vR a0, vI a1, vI a2, vU, vU, vU, vU, vU, vU, vU, vU, vU]) hst z_mX12_cut rfl ?_ (Nat.le_of_ble_eq_true rfl) rfl
  unfold fX12_cut
  refine G_aload_n (x := a0) (pc := 0) dX12_cut_0 rfl ?_
  refine G_iconst (pc := 1) dX12_cut_1 ?_
  refine G_putI (j := 0) (pc := 2) dX12_cut_2 rfl z_CLX12 (by decide) z_wX12_170 rfl (by decide) (by decide) (fun s1 => ?_)
  refine G_aload_n (x := a0) (pc := 5) dX12_cut_5 rfl ?_
  refine G_aload_n (x := a0) (pc := 6) dX12_cut_6 rfl ?_
  refine G_iload_n (x := a1) (pc := 7) dX12_cut_7 rfl ?_
  refine G_callVI (as := [vI a1]) (st := [vR a0]) (c := 12) (bc2 := 0) (bs2 := 0) (pc := 8) dX12_cut_8 z_mX12_isUnit z_vX12_isUnit z_wX12_384 (gX12_isUnit hst fu s1 a0 a1) rfl rfl (by decide) rfl rfl ⟨by decide, by decide, by decide, by decide, Nat.le_of_ble_eq_true rfl⟩ rfl (fun x3 s2 => ?_)
  refine G_if_eq (tgt := 22) (pc := 11) dX12_cut_11 ?_ ?_
  · exact gX12_cut_J22 hst fu s2 a0 a1 a2 a0
  · refine G_aload_n (x := a0) (pc := 14) dX12_cut_14 rfl ?_
    refine G_iload_n (x := a2) (pc := 15) dX12_cut_15 rfl ?_
    refine G_callVI (as := [vI a2]) (st := [vR a0]) (c := 12) (bc2 := 0) (bs2 := 0) (pc := 16) dX12_cut_16 z_mX12_isUnit z_vX12_isUnit z_wX12_384 (gX12_isUnit hst fu s2 a0 a2) rfl rfl (by decide) rfl rfl ⟨by decide, by decide, by decide, by decide, Nat.le_of_ble_eq_true rfl⟩ rfl (fun x88 s87 => ?_)
    refine G_if_ne (tgt := 26) (pc := 19) dX12_cut_19 ?_ ?_
    · refine G_iconst (pc := 26) dX12_cut_26 ?_
      exact gX12_cut_J27 hst fu s87 a0 a1 a2 a0 0
    · exact gX12_cut_J22 hst fu s87 a0 a1 a2 a0
def fX12_status_J24 (fu : Nat) (s : z_M) (t0 : Int) : z_O := some (vI t0, s)
theorem gX12_status_J24 {l : Launch} {K : z_K} (hst : l.stackTraces = false) (fu : Nat) (s : z_M) (t0 : Int) : G l K mX12_status 1 22 0 0 24 [vU, vU] [vI t0] s (fX12_status_J24 fu s t0) := by
  unfold fX12_status_J24
  exact G_iret (pc := 24) dX12_status_24
def fX12_status (fu : Nat) (s : z_M) (a0 : Int) (a1 : Int) : z_O := if z_ob a0 12 then z_let (z_up s a0 0 0) (fun s1 => z_bI (fX12_in fu s1 a1 0 1) (fun x3 s2 => if (x3 : Int) = 0 then (fX12_status_J24 fu s2 (-1)) else (if z_ob a0 12 then z_let (z_gr a0 1) (fun x4 => if z_ix x4 100 a1 then z_let (s2 x4 a1) (fun x5 => fX12_status_J24 fu s2 x5) else none) else none))) else none
theorem gX12_status {l : Launch} {K : z_K} (hst : l.stackTraces = false) (fu : Nat) (s : z_M) (a0 : Int) (a1 : Int) : z_D l K mX12_status 1 22 0 0 [vR a0, vI a1] s (fX12_status fu s a0 a1) := by
  refine z_D_of (lv := [vR a0, vI a1]) hst z_mX12_status rfl ?_ (Nat.le_of_ble_eq_true rfl) rfl
  unfold fX12_status
  refine G_aload_n (x := a0) (pc := 0) dX12_status_0 rfl ?_
  refine G_iconst (pc := 1) dX12_status_1 ?_
  refine G_putI (j := 0) (pc := 2) dX12_status_2 rfl z_CLX12 (by decide) z_wX12_170 rfl (by decide) (by decide) (fun s1 => ?_)
  refine G_iload_n (x := a1) (pc := 5) dX12_status_5 rfl ?_
  refine G_iconst (pc := 6) dX12_status_6 ?_
  refine G_iconst (pc := 7) dX12_status_7 ?_
  refine G_callSI (as := [vI a1, vI 0, vI 1]) (st := []) (bc2 := 0) (bs2 := 0) (pc := 8) dX12_status_8 z_mX12_in z_sX12_in z_wX12_245 (gX12_in hst fu s1 a1 0 1) rfl rfl ⟨by decide, by decide, by decide, by decide, Nat.le_of_ble_eq_true rfl⟩ rfl (fun x3 s2 => ?_)
  refine G_if_eq (tgt := 23) (pc := 11) dX12_status_11 ?_ ?_
  · refine G_iconst (pc := 23) dX12_status_23 ?_
    refine G_fg (lv2 := [vU, vU]) ⟨Or.inl rfl, Or.inl rfl, trivial⟩ ?_
    exact gX12_status_J24 hst fu s2 (-1)
  · refine G_aload_n (x := a0) (pc := 14) dX12_status_14 rfl ?_
    refine G_getR (j := 1) (pc := 15) dX12_status_15 rfl z_CLX12 (by decide) z_wX12_7 (by decide) (fun x4 => ?_)
    refine G_iload_n (x := a1) (pc := 18) dX12_status_18 rfl ?_
    refine G_iald (pc := 19) dX12_status_19 (fun x5 => ?_)
    refine G_goto (tgt := 24) (pc := 20) dX12_status_20 ?_
    refine G_fg (lv2 := [vU, vU]) ⟨Or.inl rfl, Or.inl rfl, trivial⟩ ?_
    exact gX12_status_J24 hst fu s2 x5
