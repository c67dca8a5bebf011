/-! THE RUNS of one call on a fresh object (by program, wip/tool/mkrun.py) -/
theorem c_794 {xs : Nat → Int32} {r : z_M → Int → z_O} {k : z_M → z_O} {P : z_V → z_M → Prop} {p1 p2 p3 p4 p5 : Int} (q1 : Int32.toInt (xs 1) = p1) (q2 : Int32.toInt (xs 2) = p2) (q3 : Int32.toInt (xs 3) = p3) (q4 : Int32.toInt (xs 4) = p4) (q5 : Int32.toInt (xs 5) = p5) (hr : ∀ s, z_T (r s 6) P) : z_T (fL_law_J794 1000 6 xs z_s0 1 309 7658 0 r k) P := by
  refine T_of (fL_law_J794.eq_1 ..) ?_
  refine T_let 1 (by decide +kernel) ?_
  refine T_if1 (by decide) ?_
  refine T_let p1 q1 ?_
  refine T_let 2 (by decide +kernel) ?_
  refine T_if1 (by decide) ?_
  refine T_let p2 q2 ?_
  refine T_bI ?_
  refine T_of (fL_block.eq_1 ..) ?_
  refine T_if1 (by decide +kernel) ?_
  refine T_cI ?_
  refine T_of (fX11_block.eq_1 ..) ?_
  refine T_if1 (by decide +kernel) ?_
  refine T_bN ?_
  refine T_of e_refresh ?_
  refine T_rN ?_
  refine T_if1 (by decide +kernel) ?_
  refine T_let 258 (by decide +kernel) ?_
  refine T_if1 (by decide +kernel) ?_
  refine T_let 279 (by decide +kernel) ?_
  refine T_if1 (by decide +kernel) ?_
  refine T_let 0 ((z_up_k (by decide)).trans ((z_up_k (by decide)).trans (by decide +kernel))) ?_
  refine T_if1 (by decide +kernel) ?_
  refine T_bN ?_
  refine T_of (fX11_needExisting.eq_1 ..) ?_
  refine T_ite (fun h1 => ?_) (fun h1 => ?_)
  · refine T_of (fX11_needExisting_J9.eq_1 ..) ?_
    refine T_if1 (by decide +kernel) ?_
    refine T_let 0 ((z_up_j (by decide)).trans ((z_up_j (by decide)).trans (by decide +kernel))) ?_
    refine T_let 1 (by decide +kernel) ?_
    refine T_if1 (by decide +kernel) ?_
    refine T_up ?_
    refine T_xN ?_
    refine T_x0I ?_
    refine T_rI ?_
    refine T_let 1 (by decide +kernel) ?_
    refine T_if1 (by decide) ?_
    refine T_let p1 q1 ?_
    refine T_let 2 (by decide +kernel) ?_
    refine T_if1 (by decide) ?_
    refine T_let p2 q2 ?_
    refine T_if1 (by decide +kernel) ?_
    refine T_bI ?_
    refine T_of (fX12_block.eq_1 ..) ?_
    refine T_if1 (by decide +kernel) ?_
    refine T_up0 ((z_up_k (by decide)).trans ((z_up_k (by decide)).trans ((z_up_k (by decide)).trans (by decide +kernel)))) ?_
    refine T_if1 (by decide +kernel) ?_
    refine T_bN ?_
    refine T_of (fX12_laysAll.eq_1 ..) ?_
    refine T_if1 (by decide +kernel) ?_
    refine T_bN ?_
    refine T_of (fX12_freshens.eq_1 ..) ?_
    refine T_if1 (by decide +kernel) ?_
    refine T_let 0 ((z_up_k (by decide)).trans ((z_up_k (by decide)).trans ((z_up_k (by decide)).trans (by decide +kernel)))) ?_
    refine T_if1 (by decide) ?_
    refine T_of (fX12_freshens_L10.eq_2 ..) ?_
    refine T_if1 (by decide +kernel) ?_
    refine T_let 0 ((z_up_k (by decide)).trans ((z_up_k (by decide)).trans ((z_up_k (by decide)).trans (by decide +kernel)))) ?_
    refine T_if1 (by decide) ?_
    refine T_if1 (by decide +kernel) ?_
    refine T_bN ?_
    refine T_of (fX12_laysPairs.eq_1 ..) ?_
    refine T_if1 (by decide +kernel) ?_
    refine T_up0 ((z_up_k (by decide)).trans ((z_up_k (by decide)).trans ((z_up_k (by decide)).trans (by decide +kernel)))) ?_
    refine T_if1 (by decide +kernel) ?_
    refine T_up0 ((z_up_k (by decide)).trans ((z_up_k (by decide)).trans ((z_up_k (by decide)).trans (by decide +kernel)))) ?_
    refine T_of (fX12_laysPairs_L14.eq_2 ..) ?_
    refine T_if1 (by decide +kernel) ?_
    refine T_let 0 ((z_up_k (by decide)).trans ((z_up_k (by decide)).trans ((z_up_k (by decide)).trans (by decide +kernel)))) ?_
    refine T_if1 (by decide) ?_
    refine T_rN ?_
    refine T_if1 (by decide +kernel) ?_
    refine T_up ?_
    refine T_if1 (by decide +kernel) ?_
    refine T_up0 ((z_up_j (by decide)).trans ((z_up_k (by decide)).trans ((z_up_k (by decide)).trans ((z_up_k (by decide)).trans (by decide +kernel))))) ?_
    refine T_rN ?_
    refine T_if1 (by decide +kernel) ?_
    refine T_let 0 ((z_up_j (by decide)).trans ((z_up_k (by decide)).trans ((z_up_k (by decide)).trans ((z_up_k (by decide)).trans (by decide +kernel))))) ?_
    refine T_if1 (by decide) ?_
    refine T_if1 (by decide +kernel) ?_
    refine T_let 312 (by decide +kernel) ?_
    refine T_if1 (by decide +kernel) ?_
    refine T_let 120 ((z_up_k (by decide)).trans ((z_up_k (by decide)).trans ((z_up_k (by decide)).trans ((z_up_k (by decide)).trans (by decide +kernel))))) ?_
    refine T_if1 (by decide +kernel) ?_
    refine T_let 312 (by decide +kernel) ?_
    refine T_if1 (by decide +kernel) ?_
    refine T_let 0 ((z_up_k (by decide)).trans ((z_up_k (by decide)).trans ((z_up_k (by decide)).trans ((z_up_k (by decide)).trans (by decide +kernel))))) ?_
    refine T_if1 (by decide +kernel) ?_
    refine T_bI ?_
    refine T_of (fX12_breaks.eq_1 ..) ?_
    refine T_if1 (by decide) ?_
    refine T_of (fX12_breaks_L15.eq_2 ..) ?_
    refine T_if1 (by decide +kernel) ?_
    refine T_let 0 ((z_up_j (by decide)).trans ((z_up_k (by decide)).trans ((z_up_k (by decide)).trans ((z_up_k (by decide)).trans (by decide +kernel))))) ?_
    refine T_if1 (by decide) ?_
    refine T_if1 (by decide +kernel) ?_
    refine T_let 3438 (by decide +kernel) ?_
    refine T_if1 (by decide +kernel) ?_
    refine T_let 0 ((z_up_j (by decide)).trans ((z_up_k (by decide)).trans ((z_up_k (by decide)).trans ((z_up_k (by decide)).trans (by decide +kernel))))) ?_
    refine T_if1 (by decide +kernel) ?_
    refine T_up0 ((z_up_k (by decide)).trans ((z_up_k (by decide)).trans ((z_up_k (by decide)).trans ((z_up_k (by decide)).trans (by decide +kernel))))) ?_
    refine T_rI ?_
    refine T_if1 (by decide +kernel) ?_
    refine T_up0 ((z_up_j (by decide)).trans ((z_up_k (by decide)).trans ((z_up_k (by decide)).trans ((z_up_k (by decide)).trans (by decide +kernel))))) ?_
    refine T_if1 (by decide +kernel) ?_
    refine T_up0 ((z_up_j (by decide)).trans ((z_up_k (by decide)).trans ((z_up_k (by decide)).trans ((z_up_k (by decide)).trans (by decide +kernel))))) ?_
    refine T_of (fX12_laysAll_L39.eq_2 ..) ?_
    refine T_if1 (by decide +kernel) ?_
    refine T_let 0 ((z_up_j (by decide)).trans ((z_up_k (by decide)).trans ((z_up_k (by decide)).trans ((z_up_k (by decide)).trans (by decide +kernel))))) ?_
    refine T_if1 (by decide) ?_
    refine T_if1 (by decide +kernel) ?_
    refine T_up ?_
    refine T_rN ?_
    refine T_if1 (by decide +kernel) ?_
    refine T_let 0 ((z_up_j (by decide)).trans ((z_up_j (by decide)).trans ((z_up_k (by decide)).trans ((z_up_k (by decide)).trans ((z_up_k (by decide)).trans (by decide +kernel)))))) ?_
    refine T_let (-1) (by decide +kernel) ?_
    refine T_bI ?_
    refine T_of (fX12_in.eq_1 ..) ?_
    refine T_if1 (by omega) ?_
    refine T_of (fX12_in_J14.eq_1 ..) ?_
    refine T_of (fX12_in_J15.eq_1 ..) ?_
    refine T_if1 (by decide) ?_
    refine T_rI ?_
    refine T_if0 (by decide) ?_
    refine T_of (fX12_block_J29.eq_1 ..) ?_
    refine T_if1 (by decide +kernel) ?_
    refine T_bI ?_
    refine T_of (fX12_bad.eq_1 ..) ?_
    refine T_if0 (by decide) ?_
    refine T_if1 (by decide +kernel) ?_
    refine T_let 0 ((z_up_j (by decide)).trans ((z_up_j (by decide)).trans ((z_up_k (by decide)).trans ((z_up_k (by decide)).trans ((z_up_k (by decide)).trans (by decide +kernel)))))) ?_
    refine T_if0 (by decide) ?_
    refine T_if1 (by decide +kernel) ?_
    refine T_up ?_
    refine T_if1 (by decide +kernel) ?_
    refine T_let 310 (by decide +kernel) ?_
    refine T_if1 (by decide +kernel) ?_
    refine T_let 0 ((z_up_k (by decide)).trans ((z_up_k (by decide)).trans ((z_up_k (by decide)).trans ((z_up_k (by decide)).trans ((z_up_k (by decide)).trans ((z_up_k (by decide)).trans (by decide +kernel))))))) ?_
    refine T_let 1 (by decide +kernel) ?_
    refine T_if1 (by decide +kernel) ?_
    refine T_up ?_
    refine T_of (fX12_bad_J26.eq_1 ..) ?_
    refine T_if1 (by decide +kernel) ?_
    refine T_let 1 ((z_up_k (by decide)).trans z_up_s) ?_
    refine T_if0 (by decide) ?_
    refine T_of (fX12_bad_J38.eq_1 ..) ?_
    refine T_if1 (by decide) ?_
    refine T_rI ?_
    refine T_if1 (by decide) ?_
    refine T_of (fX12_block_J61.eq_1 ..) ?_
    refine T_rI ?_
    refine T_if1 (by decide +kernel) ?_
    refine T_bI ?_
    refine T_of (fX12_thrown.eq_1 ..) ?_
    refine T_if1 (by decide +kernel) ?_
    refine T_let 1 ((z_up_k (by decide)).trans z_up_s) ?_
    refine T_rI ?_
    refine T_if1 (by decide) ?_
    refine T_if1 (by decide) ?_
    refine T_of (fL_law_J859.eq_1 ..) ?_
    refine T_of (fL_law_J2073.eq_1 ..) ?_
    refine T_let 6 (by decide +kernel) ?_
    exact hr _
  · refine T_if0 (by omega) ?_
    refine T_of (fX11_needExisting_J9.eq_1 ..) ?_
    refine T_if1 (by decide +kernel) ?_
    refine T_let 0 ((z_up_j (by decide)).trans ((z_up_j (by decide)).trans (by decide +kernel))) ?_
    refine T_let 1 (by decide +kernel) ?_
    refine T_if1 (by decide +kernel) ?_
    refine T_up ?_
    refine T_xN ?_
    refine T_x0I ?_
    refine T_rI ?_
    refine T_let 1 (by decide +kernel) ?_
    refine T_if1 (by decide) ?_
    refine T_let p1 q1 ?_
    refine T_let 2 (by decide +kernel) ?_
    refine T_if1 (by decide) ?_
    refine T_let p2 q2 ?_
    refine T_if1 (by decide +kernel) ?_
    refine T_bI ?_
    refine T_of (fX12_block.eq_1 ..) ?_
    refine T_if1 (by decide +kernel) ?_
    refine T_up0 ((z_up_k (by decide)).trans ((z_up_k (by decide)).trans ((z_up_k (by decide)).trans (by decide +kernel)))) ?_
    refine T_if1 (by decide +kernel) ?_
    refine T_bN ?_
    refine T_of (fX12_laysAll.eq_1 ..) ?_
    refine T_if1 (by decide +kernel) ?_
    refine T_bN ?_
    refine T_of (fX12_freshens.eq_1 ..) ?_
    refine T_if1 (by decide +kernel) ?_
    refine T_let 0 ((z_up_k (by decide)).trans ((z_up_k (by decide)).trans ((z_up_k (by decide)).trans (by decide +kernel)))) ?_
    refine T_if1 (by decide) ?_
    refine T_of (fX12_freshens_L10.eq_2 ..) ?_
    refine T_if1 (by decide +kernel) ?_
    refine T_let 0 ((z_up_k (by decide)).trans ((z_up_k (by decide)).trans ((z_up_k (by decide)).trans (by decide +kernel)))) ?_
    refine T_if1 (by decide) ?_
    refine T_if1 (by decide +kernel) ?_
    refine T_bN ?_
    refine T_of (fX12_laysPairs.eq_1 ..) ?_
    refine T_if1 (by decide +kernel) ?_
    refine T_up0 ((z_up_k (by decide)).trans ((z_up_k (by decide)).trans ((z_up_k (by decide)).trans (by decide +kernel)))) ?_
    refine T_if1 (by decide +kernel) ?_
    refine T_up0 ((z_up_k (by decide)).trans ((z_up_k (by decide)).trans ((z_up_k (by decide)).trans (by decide +kernel)))) ?_
    refine T_of (fX12_laysPairs_L14.eq_2 ..) ?_
    refine T_if1 (by decide +kernel) ?_
    refine T_let 0 ((z_up_k (by decide)).trans ((z_up_k (by decide)).trans ((z_up_k (by decide)).trans (by decide +kernel)))) ?_
    refine T_if1 (by decide) ?_
    refine T_rN ?_
    refine T_if1 (by decide +kernel) ?_
    refine T_up ?_
    refine T_if1 (by decide +kernel) ?_
    refine T_up0 ((z_up_j (by decide)).trans ((z_up_k (by decide)).trans ((z_up_k (by decide)).trans ((z_up_k (by decide)).trans (by decide +kernel))))) ?_
    refine T_rN ?_
    refine T_if1 (by decide +kernel) ?_
    refine T_let 0 ((z_up_j (by decide)).trans ((z_up_k (by decide)).trans ((z_up_k (by decide)).trans ((z_up_k (by decide)).trans (by decide +kernel))))) ?_
    refine T_if1 (by decide) ?_
    refine T_if1 (by decide +kernel) ?_
    refine T_let 312 (by decide +kernel) ?_
    refine T_if1 (by decide +kernel) ?_
    refine T_let 120 ((z_up_k (by decide)).trans ((z_up_k (by decide)).trans ((z_up_k (by decide)).trans ((z_up_k (by decide)).trans (by decide +kernel))))) ?_
    refine T_if1 (by decide +kernel) ?_
    refine T_let 312 (by decide +kernel) ?_
    refine T_if1 (by decide +kernel) ?_
    refine T_let 0 ((z_up_k (by decide)).trans ((z_up_k (by decide)).trans ((z_up_k (by decide)).trans ((z_up_k (by decide)).trans (by decide +kernel))))) ?_
    refine T_if1 (by decide +kernel) ?_
    refine T_bI ?_
    refine T_of (fX12_breaks.eq_1 ..) ?_
    refine T_if1 (by decide) ?_
    refine T_of (fX12_breaks_L15.eq_2 ..) ?_
    refine T_if1 (by decide +kernel) ?_
    refine T_let 0 ((z_up_j (by decide)).trans ((z_up_k (by decide)).trans ((z_up_k (by decide)).trans ((z_up_k (by decide)).trans (by decide +kernel))))) ?_
    refine T_if1 (by decide) ?_
    refine T_if1 (by decide +kernel) ?_
    refine T_let 3438 (by decide +kernel) ?_
    refine T_if1 (by decide +kernel) ?_
    refine T_let 0 ((z_up_j (by decide)).trans ((z_up_k (by decide)).trans ((z_up_k (by decide)).trans ((z_up_k (by decide)).trans (by decide +kernel))))) ?_
    refine T_if1 (by decide +kernel) ?_
    refine T_up0 ((z_up_k (by decide)).trans ((z_up_k (by decide)).trans ((z_up_k (by decide)).trans ((z_up_k (by decide)).trans (by decide +kernel))))) ?_
    refine T_rI ?_
    refine T_if1 (by decide +kernel) ?_
    refine T_up0 ((z_up_j (by decide)).trans ((z_up_k (by decide)).trans ((z_up_k (by decide)).trans ((z_up_k (by decide)).trans (by decide +kernel))))) ?_
    refine T_if1 (by decide +kernel) ?_
    refine T_up0 ((z_up_j (by decide)).trans ((z_up_k (by decide)).trans ((z_up_k (by decide)).trans ((z_up_k (by decide)).trans (by decide +kernel))))) ?_
    refine T_of (fX12_laysAll_L39.eq_2 ..) ?_
    refine T_if1 (by decide +kernel) ?_
    refine T_let 0 ((z_up_j (by decide)).trans ((z_up_k (by decide)).trans ((z_up_k (by decide)).trans ((z_up_k (by decide)).trans (by decide +kernel))))) ?_
    refine T_if1 (by decide) ?_
    refine T_if1 (by decide +kernel) ?_
    refine T_up ?_
    refine T_rN ?_
    refine T_if1 (by decide +kernel) ?_
    refine T_let 0 ((z_up_j (by decide)).trans ((z_up_j (by decide)).trans ((z_up_k (by decide)).trans ((z_up_k (by decide)).trans ((z_up_k (by decide)).trans (by decide +kernel)))))) ?_
    refine T_let (-1) (by decide +kernel) ?_
    refine T_bI ?_
    refine T_of (fX12_in.eq_1 ..) ?_
    refine T_if0 (by omega) ?_
    refine T_if1 (by omega) ?_
    refine T_of (fX12_in_J14.eq_1 ..) ?_
    refine T_of (fX12_in_J15.eq_1 ..) ?_
    refine T_if1 (by decide) ?_
    refine T_rI ?_
    refine T_if0 (by decide) ?_
    refine T_of (fX12_block_J29.eq_1 ..) ?_
    refine T_if1 (by decide +kernel) ?_
    refine T_bI ?_
    refine T_of (fX12_bad.eq_1 ..) ?_
    refine T_if0 (by decide) ?_
    refine T_if1 (by decide +kernel) ?_
    refine T_let 0 ((z_up_j (by decide)).trans ((z_up_j (by decide)).trans ((z_up_k (by decide)).trans ((z_up_k (by decide)).trans ((z_up_k (by decide)).trans (by decide +kernel)))))) ?_
    refine T_if0 (by decide) ?_
    refine T_if1 (by decide +kernel) ?_
    refine T_up ?_
    refine T_if1 (by decide +kernel) ?_
    refine T_let 310 (by decide +kernel) ?_
    refine T_if1 (by decide +kernel) ?_
    refine T_let 0 ((z_up_k (by decide)).trans ((z_up_k (by decide)).trans ((z_up_k (by decide)).trans ((z_up_k (by decide)).trans ((z_up_k (by decide)).trans ((z_up_k (by decide)).trans (by decide +kernel))))))) ?_
    refine T_let 1 (by decide +kernel) ?_
    refine T_if1 (by decide +kernel) ?_
    refine T_up ?_
    refine T_of (fX12_bad_J26.eq_1 ..) ?_
    refine T_if1 (by decide +kernel) ?_
    refine T_let 1 ((z_up_k (by decide)).trans z_up_s) ?_
    refine T_if0 (by decide) ?_
    refine T_of (fX12_bad_J38.eq_1 ..) ?_
    refine T_if1 (by decide) ?_
    refine T_rI ?_
    refine T_if1 (by decide) ?_
    refine T_of (fX12_block_J61.eq_1 ..) ?_
    refine T_rI ?_
    refine T_if1 (by decide +kernel) ?_
    refine T_bI ?_
    refine T_of (fX12_thrown.eq_1 ..) ?_
    refine T_if1 (by decide +kernel) ?_
    refine T_let 1 ((z_up_k (by decide)).trans z_up_s) ?_
    refine T_rI ?_
    refine T_if1 (by decide) ?_
    refine T_if1 (by decide) ?_
    refine T_of (fL_law_J859.eq_1 ..) ?_
    refine T_of (fL_law_J2073.eq_1 ..) ?_
    refine T_let 6 (by decide +kernel) ?_
    exact hr _
theorem c_862 {xs : Nat → Int32} {r : z_M → Int → z_O} {k : z_M → z_O} {P : z_V → z_M → Prop} {p1 p2 p3 p4 p5 : Int} (q1 : Int32.toInt (xs 1) = p1) (q2 : Int32.toInt (xs 2) = p2) (q3 : Int32.toInt (xs 3) = p3) (q4 : Int32.toInt (xs 4) = p4) (q5 : Int32.toInt (xs 5) = p5) (hr : ∀ s, z_T (r s 6) P) : z_T (fL_law_J862 1000 6 xs z_s0 1 309 7658 0 r k) P := by
  refine T_of (fL_law_J862.eq_1 ..) ?_
  refine T_let 1 (by decide +kernel) ?_
  refine T_if1 (by decide) ?_
  refine T_let p1 q1 ?_
  refine T_let 2 (by decide +kernel) ?_
  refine T_if1 (by decide) ?_
  refine T_let p2 q2 ?_
  refine T_let 3 (by decide +kernel) ?_
  refine T_if1 (by decide) ?_
  refine T_let p3 q3 ?_
  refine T_let 4 (by decide +kernel) ?_
  refine T_if1 (by decide) ?_
  refine T_let p4 q4 ?_
  refine T_bI ?_
  refine T_of (fL_reading.eq_1 ..) ?_
  refine T_if1 (by decide +kernel) ?_
  refine T_cI ?_
  refine T_of (fX11_reading.eq_1 ..) ?_
  refine T_if1 (by decide +kernel) ?_
  refine T_bN ?_
  refine T_of e_refresh ?_
  refine T_rN ?_
  refine T_if1 (by decide +kernel) ?_
  refine T_let 258 (by decide +kernel) ?_
  refine T_if1 (by decide +kernel) ?_
  refine T_let 279 (by decide +kernel) ?_
  refine T_if1 (by decide +kernel) ?_
  refine T_let 0 ((z_up_k (by decide)).trans ((z_up_k (by decide)).trans (by decide +kernel))) ?_
  refine T_if1 (by decide +kernel) ?_
  refine T_bN ?_
  refine T_of (fX11_needExisting.eq_1 ..) ?_
  refine T_ite (fun h1 => ?_) (fun h1 => ?_)
  · refine T_of (fX11_needExisting_J9.eq_1 ..) ?_
    refine T_if1 (by decide +kernel) ?_
    refine T_let 0 ((z_up_j (by decide)).trans ((z_up_j (by decide)).trans (by decide +kernel))) ?_
    refine T_let 1 (by decide +kernel) ?_
    refine T_if1 (by decide +kernel) ?_
    refine T_up ?_
    refine T_xN ?_
    refine T_x0I ?_
    refine T_rI ?_
    refine T_let 1 (by decide +kernel) ?_
    refine T_if1 (by decide) ?_
    refine T_let p1 q1 ?_
    refine T_let 2 (by decide +kernel) ?_
    refine T_if1 (by decide) ?_
    refine T_let p2 q2 ?_
    refine T_let 3 (by decide +kernel) ?_
    refine T_if1 (by decide) ?_
    refine T_let p3 q3 ?_
    refine T_let 4 (by decide +kernel) ?_
    refine T_if1 (by decide) ?_
    refine T_let p4 q4 ?_
    refine T_if1 (by decide +kernel) ?_
    refine T_bI ?_
    refine T_of (fX12_reading.eq_1 ..) ?_
    refine T_if1 (by decide +kernel) ?_
    refine T_up0 ((z_up_k (by decide)).trans ((z_up_k (by decide)).trans ((z_up_k (by decide)).trans (by decide +kernel)))) ?_
    refine T_if1 (by decide +kernel) ?_
    refine T_bN ?_
    refine T_of (fX12_laysAll.eq_1 ..) ?_
    refine T_if1 (by decide +kernel) ?_
    refine T_bN ?_
    refine T_of (fX12_freshens.eq_1 ..) ?_
    refine T_if1 (by decide +kernel) ?_
    refine T_let 0 ((z_up_k (by decide)).trans ((z_up_k (by decide)).trans ((z_up_k (by decide)).trans (by decide +kernel)))) ?_
    refine T_if1 (by decide) ?_
    refine T_of (fX12_freshens_L10.eq_2 ..) ?_
    refine T_if1 (by decide +kernel) ?_
    refine T_let 0 ((z_up_k (by decide)).trans ((z_up_k (by decide)).trans ((z_up_k (by decide)).trans (by decide +kernel)))) ?_
    refine T_if1 (by decide) ?_
    refine T_if1 (by decide +kernel) ?_
    refine T_bN ?_
    refine T_of (fX12_laysPairs.eq_1 ..) ?_
    refine T_if1 (by decide +kernel) ?_
    refine T_up0 ((z_up_k (by decide)).trans ((z_up_k (by decide)).trans ((z_up_k (by decide)).trans (by decide +kernel)))) ?_
    refine T_if1 (by decide +kernel) ?_
    refine T_up0 ((z_up_k (by decide)).trans ((z_up_k (by decide)).trans ((z_up_k (by decide)).trans (by decide +kernel)))) ?_
    refine T_of (fX12_laysPairs_L14.eq_2 ..) ?_
    refine T_if1 (by decide +kernel) ?_
    refine T_let 0 ((z_up_k (by decide)).trans ((z_up_k (by decide)).trans ((z_up_k (by decide)).trans (by decide +kernel)))) ?_
    refine T_if1 (by decide) ?_
    refine T_rN ?_
    refine T_if1 (by decide +kernel) ?_
    refine T_up ?_
    refine T_if1 (by decide +kernel) ?_
    refine T_up0 ((z_up_j (by decide)).trans ((z_up_k (by decide)).trans ((z_up_k (by decide)).trans ((z_up_k (by decide)).trans (by decide +kernel))))) ?_
    refine T_rN ?_
    refine T_if1 (by decide +kernel) ?_
    refine T_let 0 ((z_up_j (by decide)).trans ((z_up_k (by decide)).trans ((z_up_k (by decide)).trans ((z_up_k (by decide)).trans (by decide +kernel))))) ?_
    refine T_if1 (by decide) ?_
    refine T_if1 (by decide +kernel) ?_
    refine T_let 312 (by decide +kernel) ?_
    refine T_if1 (by decide +kernel) ?_
    refine T_let 120 ((z_up_k (by decide)).trans ((z_up_k (by decide)).trans ((z_up_k (by decide)).trans ((z_up_k (by decide)).trans (by decide +kernel))))) ?_
    refine T_if1 (by decide +kernel) ?_
    refine T_let 312 (by decide +kernel) ?_
    refine T_if1 (by decide +kernel) ?_
    refine T_let 0 ((z_up_k (by decide)).trans ((z_up_k (by decide)).trans ((z_up_k (by decide)).trans ((z_up_k (by decide)).trans (by decide +kernel))))) ?_
    refine T_if1 (by decide +kernel) ?_
    refine T_bI ?_
    refine T_of (fX12_breaks.eq_1 ..) ?_
    refine T_if1 (by decide) ?_
    refine T_of (fX12_breaks_L15.eq_2 ..) ?_
    refine T_if1 (by decide +kernel) ?_
    refine T_let 0 ((z_up_j (by decide)).trans ((z_up_k (by decide)).trans ((z_up_k (by decide)).trans ((z_up_k (by decide)).trans (by decide +kernel))))) ?_
    refine T_if1 (by decide) ?_
    refine T_if1 (by decide +kernel) ?_
    refine T_let 3438 (by decide +kernel) ?_
    refine T_if1 (by decide +kernel) ?_
    refine T_let 0 ((z_up_j (by decide)).trans ((z_up_k (by decide)).trans ((z_up_k (by decide)).trans ((z_up_k (by decide)).trans (by decide +kernel))))) ?_
    refine T_if1 (by decide +kernel) ?_
    refine T_up0 ((z_up_k (by decide)).trans ((z_up_k (by decide)).trans ((z_up_k (by decide)).trans ((z_up_k (by decide)).trans (by decide +kernel))))) ?_
    refine T_rI ?_
    refine T_if1 (by decide +kernel) ?_
    refine T_up0 ((z_up_j (by decide)).trans ((z_up_k (by decide)).trans ((z_up_k (by decide)).trans ((z_up_k (by decide)).trans (by decide +kernel))))) ?_
    refine T_if1 (by decide +kernel) ?_
    refine T_up0 ((z_up_j (by decide)).trans ((z_up_k (by decide)).trans ((z_up_k (by decide)).trans ((z_up_k (by decide)).trans (by decide +kernel))))) ?_
    refine T_of (fX12_laysAll_L39.eq_2 ..) ?_
    refine T_if1 (by decide +kernel) ?_
    refine T_let 0 ((z_up_j (by decide)).trans ((z_up_k (by decide)).trans ((z_up_k (by decide)).trans ((z_up_k (by decide)).trans (by decide +kernel))))) ?_
    refine T_if1 (by decide) ?_
    refine T_if1 (by decide +kernel) ?_
    refine T_up ?_
    refine T_rN ?_
    refine T_if1 (by decide +kernel) ?_
    refine T_let 0 ((z_up_j (by decide)).trans ((z_up_j (by decide)).trans ((z_up_k (by decide)).trans ((z_up_k (by decide)).trans ((z_up_k (by decide)).trans (by decide +kernel)))))) ?_
    refine T_let (-1) (by decide +kernel) ?_
    refine T_bI ?_
    refine T_of (fX12_in.eq_1 ..) ?_
    refine T_if1 (by omega) ?_
    refine T_of (fX12_in_J14.eq_1 ..) ?_
    refine T_of (fX12_in_J15.eq_1 ..) ?_
    refine T_if1 (by decide) ?_
    refine T_rI ?_
    refine T_if0 (by decide) ?_
    refine T_of (fX12_reading_J29.eq_1 ..) ?_
    refine T_if1 (by decide +kernel) ?_
    refine T_bI ?_
    refine T_of (fX12_bad.eq_1 ..) ?_
    refine T_if0 (by decide) ?_
    refine T_if1 (by decide +kernel) ?_
    refine T_let 0 ((z_up_j (by decide)).trans ((z_up_j (by decide)).trans ((z_up_k (by decide)).trans ((z_up_k (by decide)).trans ((z_up_k (by decide)).trans (by decide +kernel)))))) ?_
    refine T_if0 (by decide) ?_
    refine T_if1 (by decide +kernel) ?_
    refine T_up ?_
    refine T_if1 (by decide +kernel) ?_
    refine T_let 310 (by decide +kernel) ?_
    refine T_if1 (by decide +kernel) ?_
    refine T_let 0 ((z_up_k (by decide)).trans ((z_up_k (by decide)).trans ((z_up_k (by decide)).trans ((z_up_k (by decide)).trans ((z_up_k (by decide)).trans ((z_up_k (by decide)).trans (by decide +kernel))))))) ?_
    refine T_let 1 (by decide +kernel) ?_
    refine T_if1 (by decide +kernel) ?_
    refine T_up ?_
    refine T_of (fX12_bad_J26.eq_1 ..) ?_
    refine T_if1 (by decide +kernel) ?_
    refine T_let 1 ((z_up_k (by decide)).trans z_up_s) ?_
    refine T_if0 (by decide) ?_
    refine T_of (fX12_bad_J38.eq_1 ..) ?_
    refine T_if1 (by decide) ?_
    refine T_rI ?_
    refine T_if1 (by decide) ?_
    refine T_of (fX12_reading_J70.eq_1 ..) ?_
    refine T_rI ?_
    refine T_if1 (by decide +kernel) ?_
    refine T_bI ?_
    refine T_of (fX12_thrown.eq_1 ..) ?_
    refine T_if1 (by decide +kernel) ?_
    refine T_let 1 ((z_up_k (by decide)).trans z_up_s) ?_
    refine T_rI ?_
    refine T_if1 (by decide) ?_
    refine T_if1 (by decide) ?_
    refine T_of (fL_law_J951.eq_1 ..) ?_
    refine T_of (fL_law_J2073.eq_1 ..) ?_
    refine T_let 6 (by decide +kernel) ?_
    exact hr _
  · refine T_if0 (by omega) ?_
    refine T_of (fX11_needExisting_J9.eq_1 ..) ?_
    refine T_if1 (by decide +kernel) ?_
    refine T_let 0 ((z_up_j (by decide)).trans ((z_up_j (by decide)).trans (by decide +kernel))) ?_
    refine T_let 1 (by decide +kernel) ?_
    refine T_if1 (by decide +kernel) ?_
    refine T_up ?_
    refine T_xN ?_
    refine T_x0I ?_
    refine T_rI ?_
    refine T_let 1 (by decide +kernel) ?_
    refine T_if1 (by decide) ?_
    refine T_let p1 q1 ?_
    refine T_let 2 (by decide +kernel) ?_
    refine T_if1 (by decide) ?_
    refine T_let p2 q2 ?_
    refine T_let 3 (by decide +kernel) ?_
    refine T_if1 (by decide) ?_
    refine T_let p3 q3 ?_
    refine T_let 4 (by decide +kernel) ?_
    refine T_if1 (by decide) ?_
    refine T_let p4 q4 ?_
    refine T_if1 (by decide +kernel) ?_
    refine T_bI ?_
    refine T_of (fX12_reading.eq_1 ..) ?_
    refine T_if1 (by decide +kernel) ?_
    refine T_up0 ((z_up_k (by decide)).trans ((z_up_k (by decide)).trans ((z_up_k (by decide)).trans (by decide +kernel)))) ?_
    refine T_if1 (by decide +kernel) ?_
    refine T_bN ?_
    refine T_of (fX12_laysAll.eq_1 ..) ?_
    refine T_if1 (by decide +kernel) ?_
    refine T_bN ?_
    refine T_of (fX12_freshens.eq_1 ..) ?_
    refine T_if1 (by decide +kernel) ?_
    refine T_let 0 ((z_up_k (by decide)).trans ((z_up_k (by decide)).trans ((z_up_k (by decide)).trans (by decide +kernel)))) ?_
    refine T_if1 (by decide) ?_
    refine T_of (fX12_freshens_L10.eq_2 ..) ?_
    refine T_if1 (by decide +kernel) ?_
    refine T_let 0 ((z_up_k (by decide)).trans ((z_up_k (by decide)).trans ((z_up_k (by decide)).trans (by decide +kernel)))) ?_
    refine T_if1 (by decide) ?_
    refine T_if1 (by decide +kernel) ?_
    refine T_bN ?_
    refine T_of (fX12_laysPairs.eq_1 ..) ?_
    refine T_if1 (by decide +kernel) ?_
    refine T_up0 ((z_up_k (by decide)).trans ((z_up_k (by decide)).trans ((z_up_k (by decide)).trans (by decide +kernel)))) ?_
    refine T_if1 (by decide +kernel) ?_
    refine T_up0 ((z_up_k (by decide)).trans ((z_up_k (by decide)).trans ((z_up_k (by decide)).trans (by decide +kernel)))) ?_
    refine T_of (fX12_laysPairs_L14.eq_2 ..) ?_
    refine T_if1 (by decide +kernel) ?_
    refine T_let 0 ((z_up_k (by decide)).trans ((z_up_k (by decide)).trans ((z_up_k (by decide)).trans (by decide +kernel)))) ?_
    refine T_if1 (by decide) ?_
    refine T_rN ?_
    refine T_if1 (by decide +kernel) ?_
    refine T_up ?_
    refine T_if1 (by decide +kernel) ?_
    refine T_up0 ((z_up_j (by decide)).trans ((z_up_k (by decide)).trans ((z_up_k (by decide)).trans ((z_up_k (by decide)).trans (by decide +kernel))))) ?_
    refine T_rN ?_
    refine T_if1 (by decide +kernel) ?_
    refine T_let 0 ((z_up_j (by decide)).trans ((z_up_k (by decide)).trans ((z_up_k (by decide)).trans ((z_up_k (by decide)).trans (by decide +kernel))))) ?_
    refine T_if1 (by decide) ?_
    refine T_if1 (by decide +kernel) ?_
    refine T_let 312 (by decide +kernel) ?_
    refine T_if1 (by decide +kernel) ?_
    refine T_let 120 ((z_up_k (by decide)).trans ((z_up_k (by decide)).trans ((z_up_k (by decide)).trans ((z_up_k (by decide)).trans (by decide +kernel))))) ?_
    refine T_if1 (by decide +kernel) ?_
    refine T_let 312 (by decide +kernel) ?_
    refine T_if1 (by decide +kernel) ?_
    refine T_let 0 ((z_up_k (by decide)).trans ((z_up_k (by decide)).trans ((z_up_k (by decide)).trans ((z_up_k (by decide)).trans (by decide +kernel))))) ?_
    refine T_if1 (by decide +kernel) ?_
    refine T_bI ?_
    refine T_of (fX12_breaks.eq_1 ..) ?_
    refine T_if1 (by decide) ?_
    refine T_of (fX12_breaks_L15.eq_2 ..) ?_
    refine T_if1 (by decide +kernel) ?_
    refine T_let 0 ((z_up_j (by decide)).trans ((z_up_k (by decide)).trans ((z_up_k (by decide)).trans ((z_up_k (by decide)).trans (by decide +kernel))))) ?_
    refine T_if1 (by decide) ?_
    refine T_if1 (by decide +kernel) ?_
    refine T_let 3438 (by decide +kernel) ?_
    refine T_if1 (by decide +kernel) ?_
    refine T_let 0 ((z_up_j (by decide)).trans ((z_up_k (by decide)).trans ((z_up_k (by decide)).trans ((z_up_k (by decide)).trans (by decide +kernel))))) ?_
    refine T_if1 (by decide +kernel) ?_
    refine T_up0 ((z_up_k (by decide)).trans ((z_up_k (by decide)).trans ((z_up_k (by decide)).trans ((z_up_k (by decide)).trans (by decide +kernel))))) ?_
    refine T_rI ?_
    refine T_if1 (by decide +kernel) ?_
    refine T_up0 ((z_up_j (by decide)).trans ((z_up_k (by decide)).trans ((z_up_k (by decide)).trans ((z_up_k (by decide)).trans (by decide +kernel))))) ?_
    refine T_if1 (by decide +kernel) ?_
    refine T_up0 ((z_up_j (by decide)).trans ((z_up_k (by decide)).trans ((z_up_k (by decide)).trans ((z_up_k (by decide)).trans (by decide +kernel))))) ?_
    refine T_of (fX12_laysAll_L39.eq_2 ..) ?_
    refine T_if1 (by decide +kernel) ?_
    refine T_let 0 ((z_up_j (by decide)).trans ((z_up_k (by decide)).trans ((z_up_k (by decide)).trans ((z_up_k (by decide)).trans (by decide +kernel))))) ?_
    refine T_if1 (by decide) ?_
    refine T_if1 (by decide +kernel) ?_
    refine T_up ?_
    refine T_rN ?_
    refine T_if1 (by decide +kernel) ?_
    refine T_let 0 ((z_up_j (by decide)).trans ((z_up_j (by decide)).trans ((z_up_k (by decide)).trans ((z_up_k (by decide)).trans ((z_up_k (by decide)).trans (by decide +kernel)))))) ?_
    refine T_let (-1) (by decide +kernel) ?_
    refine T_bI ?_
    refine T_of (fX12_in.eq_1 ..) ?_
    refine T_if0 (by omega) ?_
    refine T_if1 (by omega) ?_
    refine T_of (fX12_in_J14.eq_1 ..) ?_
    refine T_of (fX12_in_J15.eq_1 ..) ?_
    refine T_if1 (by decide) ?_
    refine T_rI ?_
    refine T_if0 (by decide) ?_
    refine T_of (fX12_reading_J29.eq_1 ..) ?_
    refine T_if1 (by decide +kernel) ?_
    refine T_bI ?_
    refine T_of (fX12_bad.eq_1 ..) ?_
    refine T_if0 (by decide) ?_
    refine T_if1 (by decide +kernel) ?_
    refine T_let 0 ((z_up_j (by decide)).trans ((z_up_j (by decide)).trans ((z_up_k (by decide)).trans ((z_up_k (by decide)).trans ((z_up_k (by decide)).trans (by decide +kernel)))))) ?_
    refine T_if0 (by decide) ?_
    refine T_if1 (by decide +kernel) ?_
    refine T_up ?_
    refine T_if1 (by decide +kernel) ?_
    refine T_let 310 (by decide +kernel) ?_
    refine T_if1 (by decide +kernel) ?_
    refine T_let 0 ((z_up_k (by decide)).trans ((z_up_k (by decide)).trans ((z_up_k (by decide)).trans ((z_up_k (by decide)).trans ((z_up_k (by decide)).trans ((z_up_k (by decide)).trans (by decide +kernel))))))) ?_
    refine T_let 1 (by decide +kernel) ?_
    refine T_if1 (by decide +kernel) ?_
    refine T_up ?_
    refine T_of (fX12_bad_J26.eq_1 ..) ?_
    refine T_if1 (by decide +kernel) ?_
    refine T_let 1 ((z_up_k (by decide)).trans z_up_s) ?_
    refine T_if0 (by decide) ?_
    refine T_of (fX12_bad_J38.eq_1 ..) ?_
    refine T_if1 (by decide) ?_
    refine T_rI ?_
    refine T_if1 (by decide) ?_
    refine T_of (fX12_reading_J70.eq_1 ..) ?_
    refine T_rI ?_
    refine T_if1 (by decide +kernel) ?_
    refine T_bI ?_
    refine T_of (fX12_thrown.eq_1 ..) ?_
    refine T_if1 (by decide +kernel) ?_
    refine T_let 1 ((z_up_k (by decide)).trans z_up_s) ?_
    refine T_rI ?_
    refine T_if1 (by decide) ?_
    refine T_if1 (by decide) ?_
    refine T_of (fL_law_J951.eq_1 ..) ?_
    refine T_of (fL_law_J2073.eq_1 ..) ?_
    refine T_let 6 (by decide +kernel) ?_
    exact hr _
theorem c_954 {xs : Nat → Int32} {r : z_M → Int → z_O} {k : z_M → z_O} {P : z_V → z_M → Prop} {p1 p2 p3 p4 p5 : Int} (q1 : Int32.toInt (xs 1) = p1) (q2 : Int32.toInt (xs 2) = p2) (q3 : Int32.toInt (xs 3) = p3) (q4 : Int32.toInt (xs 4) = p4) (q5 : Int32.toInt (xs 5) = p5) (hr : ∀ s, z_T (r s 6) P) : z_T (fL_law_J954 1000 6 xs z_s0 1 309 7658 0 r k) P := by
  refine T_of (fL_law_J954.eq_1 ..) ?_
  refine T_let 1 (by decide +kernel) ?_
  refine T_if1 (by decide) ?_
  refine T_let p1 q1 ?_
  refine T_let 2 (by decide +kernel) ?_
  refine T_if1 (by decide) ?_
  refine T_let p2 q2 ?_
  refine T_bI ?_
  refine T_of (fL_run.eq_1 ..) ?_
  refine T_if1 (by decide +kernel) ?_
  refine T_cI ?_
  refine T_of (fX11_run.eq_1 ..) ?_
  refine T_if1 (by decide +kernel) ?_
  refine T_bN ?_
  refine T_of (fX11_needWithin.eq_1 ..) ?_
  refine T_ite (fun h1 => ?_) (fun h1 => ?_)
  · refine T_of (fX11_needWithin_J10.eq_1 ..) ?_
    refine T_if1 (by decide +kernel) ?_
    refine T_let 0 (by decide +kernel) ?_
    refine T_let 1 (by decide +kernel) ?_
    refine T_if1 (by decide +kernel) ?_
    refine T_up ?_
    refine T_xN ?_
    refine T_x1I ?_
    refine T_rI ?_
    refine T_let 1 (by decide +kernel) ?_
    refine T_if1 (by decide) ?_
    refine T_let p1 q1 ?_
    refine T_let 2 (by decide +kernel) ?_
    refine T_if1 (by decide) ?_
    refine T_let p2 q2 ?_
    refine T_if1 (by decide +kernel) ?_
    refine T_bI ?_
    refine T_of (fX12_run.eq_1 ..) ?_
    refine T_if1 (by decide +kernel) ?_
    refine T_up0 ((z_up_k (by decide)).trans (by decide +kernel)) ?_
    refine T_bI ?_
    refine T_of (fX12_in.eq_1 ..) ?_
    refine T_if1 (by omega) ?_
    refine T_of (fX12_in_J14.eq_1 ..) ?_
    refine T_of (fX12_in_J15.eq_1 ..) ?_
    refine T_if1 (by decide) ?_
    refine T_rI ?_
    refine T_if0 (by decide) ?_
    refine T_of (fX12_run_J20.eq_1 ..) ?_
    refine T_if1 (by decide +kernel) ?_
    refine T_bI ?_
    refine T_of (fX12_bad.eq_1 ..) ?_
    refine T_if0 (by decide) ?_
    refine T_if1 (by decide +kernel) ?_
    refine T_let 0 ((z_up_k (by decide)).trans (by decide +kernel)) ?_
    refine T_if0 (by decide) ?_
    refine T_if1 (by decide +kernel) ?_
    refine T_up ?_
    refine T_if1 (by decide +kernel) ?_
    refine T_let 310 (by decide +kernel) ?_
    refine T_if1 (by decide +kernel) ?_
    refine T_let 0 ((z_up_k (by decide)).trans ((z_up_k (by decide)).trans (by decide +kernel))) ?_
    refine T_let 1 (by decide +kernel) ?_
    refine T_if1 (by decide +kernel) ?_
    refine T_up ?_
    refine T_of (fX12_bad_J26.eq_1 ..) ?_
    refine T_if1 (by decide +kernel) ?_
    refine T_let 1 ((z_up_k (by decide)).trans z_up_s) ?_
    refine T_if0 (by decide) ?_
    refine T_of (fX12_bad_J38.eq_1 ..) ?_
    refine T_if1 (by decide) ?_
    refine T_rI ?_
    refine T_if0 (by decide) ?_
    refine T_rI ?_
    refine T_if1 (by decide +kernel) ?_
    refine T_bI ?_
    refine T_of (fX12_thrown.eq_1 ..) ?_
    refine T_if1 (by decide +kernel) ?_
    refine T_let 1 ((z_up_k (by decide)).trans z_up_s) ?_
    refine T_rI ?_
    refine T_if1 (by decide) ?_
    refine T_if1 (by decide) ?_
    refine T_of (fL_law_J1019.eq_1 ..) ?_
    refine T_of (fL_law_J2073.eq_1 ..) ?_
    refine T_let 6 (by decide +kernel) ?_
    exact hr _
  · refine T_ite (fun h2 => ?_) (fun h2 => ?_)
    · refine T_rN ?_
      refine T_if1 (by decide +kernel) ?_
      refine T_bN ?_
      refine T_of e_refresh ?_
      refine T_rN ?_
      refine T_of (fX11_run_L19.eq_2 ..) ?_
      refine T_if1 (by decide +kernel) ?_
      refine T_let 6 (by decide +kernel) ?_
      refine T_if1 (by decide +kernel) ?_
      refine T_let 0 ((z_up_k (by decide)).trans ((z_up_k (by decide)).trans (by decide +kernel))) ?_
      refine T_if1 (by decide) ?_
      refine T_rcI ?_
      refine T_if1 (by decide +kernel) ?_
      refine T_up ?_
      refine T_rI ?_
      refine T_let 1 (by decide +kernel) ?_
      refine T_if1 (by decide) ?_
      refine T_let p1 q1 ?_
      refine T_let 2 (by decide +kernel) ?_
      refine T_if1 (by decide) ?_
      refine T_let p2 q2 ?_
      refine T_if1 (by decide +kernel) ?_
      refine T_bI ?_
      refine T_of (fX12_run.eq_1 ..) ?_
      refine T_if1 (by decide +kernel) ?_
      refine T_up0 ((z_up_k (by decide)).trans ((z_up_k (by decide)).trans ((z_up_k (by decide)).trans (by decide +kernel)))) ?_
      refine T_bI ?_
      refine T_of (fX12_in.eq_1 ..) ?_
      refine T_if0 (by omega) ?_
      refine T_if0 (by omega) ?_
      refine T_of (fX12_in_J15.eq_1 ..) ?_
      refine T_if1 (by decide) ?_
      refine T_rI ?_
      refine T_if1 (by decide) ?_
      refine T_of (fX12_run_J20.eq_1 ..) ?_
      refine T_if1 (by decide +kernel) ?_
      refine T_bI ?_
      refine T_of (fX12_bad.eq_1 ..) ?_
      refine T_if1 (by decide) ?_
      refine T_of (fX12_bad_J26.eq_1 ..) ?_
      refine T_if1 (by decide +kernel) ?_
      refine T_let 0 ((z_up_k (by decide)).trans ((z_up_k (by decide)).trans ((z_up_k (by decide)).trans (by decide +kernel)))) ?_
      refine T_if1 (by decide) ?_
      refine T_of (fX12_bad_J38.eq_1 ..) ?_
      refine T_if1 (by decide) ?_
      refine T_rI ?_
      refine T_if1 (by decide) ?_
      refine T_of (fX12_run_L35.eq_2 ..) ?_
      refine T_if1 (by decide +kernel) ?_
      refine T_let 315 (by decide +kernel) ?_
      refine T_if1 (by decide +kernel) ?_
      refine T_let 316 (by decide +kernel) ?_
      refine T_if1 (by decide +kernel) ?_
      refine T_let 0 ((z_up_k (by decide)).trans ((z_up_k (by decide)).trans ((z_up_k (by decide)).trans (by decide +kernel)))) ?_
      refine T_if1 (by decide) ?_
      refine T_rI ?_
      refine T_if1 (by decide +kernel) ?_
      refine T_bI ?_
      refine T_of (fX12_thrown.eq_1 ..) ?_
      refine T_if1 (by decide +kernel) ?_
      refine T_let 0 ((z_up_k (by decide)).trans ((z_up_k (by decide)).trans ((z_up_k (by decide)).trans (by decide +kernel)))) ?_
      refine T_rI ?_
      refine T_if1 (by decide) ?_
      refine T_if0 (by decide) ?_
      refine T_if1 (by decide +kernel) ?_
      refine T_let (-1) z_up_s ?_
      refine T_let 0 (by decide +kernel) ?_
      refine T_if1 (by decide) ?_
      refine T_of (fL_law_J1019.eq_1 ..) ?_
      refine T_of (fL_law_J2073.eq_1 ..) ?_
      refine T_let 6 (by decide +kernel) ?_
      exact hr _
    · refine T_of (fX11_needWithin_J10.eq_1 ..) ?_
      refine T_if1 (by decide +kernel) ?_
      refine T_let 0 (by decide +kernel) ?_
      refine T_let 1 (by decide +kernel) ?_
      refine T_if1 (by decide +kernel) ?_
      refine T_up ?_
      refine T_xN ?_
      refine T_x1I ?_
      refine T_rI ?_
      refine T_let 1 (by decide +kernel) ?_
      refine T_if1 (by decide) ?_
      refine T_let p1 q1 ?_
      refine T_let 2 (by decide +kernel) ?_
      refine T_if1 (by decide) ?_
      refine T_let p2 q2 ?_
      refine T_if1 (by decide +kernel) ?_
      refine T_bI ?_
      refine T_of (fX12_run.eq_1 ..) ?_
      refine T_if1 (by decide +kernel) ?_
      refine T_up0 ((z_up_k (by decide)).trans (by decide +kernel)) ?_
      refine T_bI ?_
      refine T_of (fX12_in.eq_1 ..) ?_
      refine T_if0 (by omega) ?_
      refine T_if1 (by omega) ?_
      refine T_of (fX12_in_J14.eq_1 ..) ?_
      refine T_of (fX12_in_J15.eq_1 ..) ?_
      refine T_if1 (by decide) ?_
      refine T_rI ?_
      refine T_if0 (by decide) ?_
      refine T_of (fX12_run_J20.eq_1 ..) ?_
      refine T_if1 (by decide +kernel) ?_
      refine T_bI ?_
      refine T_of (fX12_bad.eq_1 ..) ?_
      refine T_if0 (by decide) ?_
      refine T_if1 (by decide +kernel) ?_
      refine T_let 0 ((z_up_k (by decide)).trans (by decide +kernel)) ?_
      refine T_if0 (by decide) ?_
      refine T_if1 (by decide +kernel) ?_
      refine T_up ?_
      refine T_if1 (by decide +kernel) ?_
      refine T_let 310 (by decide +kernel) ?_
      refine T_if1 (by decide +kernel) ?_
      refine T_let 0 ((z_up_k (by decide)).trans ((z_up_k (by decide)).trans (by decide +kernel))) ?_
      refine T_let 1 (by decide +kernel) ?_
      refine T_if1 (by decide +kernel) ?_
      refine T_up ?_
      refine T_of (fX12_bad_J26.eq_1 ..) ?_
      refine T_if1 (by decide +kernel) ?_
      refine T_let 1 ((z_up_k (by decide)).trans z_up_s) ?_
      refine T_if0 (by decide) ?_
      refine T_of (fX12_bad_J38.eq_1 ..) ?_
      refine T_if1 (by decide) ?_
      refine T_rI ?_
      refine T_if0 (by decide) ?_
      refine T_rI ?_
      refine T_if1 (by decide +kernel) ?_
      refine T_bI ?_
      refine T_of (fX12_thrown.eq_1 ..) ?_
      refine T_if1 (by decide +kernel) ?_
      refine T_let 1 ((z_up_k (by decide)).trans z_up_s) ?_
      refine T_rI ?_
      refine T_if1 (by decide) ?_
      refine T_if1 (by decide) ?_
      refine T_of (fL_law_J1019.eq_1 ..) ?_
      refine T_of (fL_law_J2073.eq_1 ..) ?_
      refine T_let 6 (by decide +kernel) ?_
      exact hr _
theorem c_1022 {xs : Nat → Int32} {r : z_M → Int → z_O} {k : z_M → z_O} {P : z_V → z_M → Prop} {p1 p2 p3 p4 p5 : Int} (q1 : Int32.toInt (xs 1) = p1) (q2 : Int32.toInt (xs 2) = p2) (q3 : Int32.toInt (xs 3) = p3) (q4 : Int32.toInt (xs 4) = p4) (q5 : Int32.toInt (xs 5) = p5) (hr : ∀ s, z_T (r s 6) P) : z_T (fL_law_J1022 1000 6 xs z_s0 1 309 7658 0 r k) P := by
  refine T_of (fL_law_J1022.eq_1 ..) ?_
  refine T_let 1 (by decide +kernel) ?_
  refine T_if1 (by decide) ?_
  refine T_let p1 q1 ?_
  refine T_let 2 (by decide +kernel) ?_
  refine T_if1 (by decide) ?_
  refine T_let p2 q2 ?_
  refine T_bI ?_
  refine T_of (fL_at.eq_1 ..) ?_
  refine T_if1 (by decide +kernel) ?_
  refine T_cI ?_
  refine T_of (fX11_at.eq_1 ..) ?_
  refine T_if1 (by decide +kernel) ?_
  refine T_bN ?_
  refine T_of e_refresh ?_
  refine T_rN ?_
  refine T_if1 (by decide +kernel) ?_
  refine T_let 240 (by decide +kernel) ?_
  refine T_if1 (by decide +kernel) ?_
  refine T_let 0 ((z_up_k (by decide)).trans ((z_up_k (by decide)).trans (by decide +kernel))) ?_
  refine T_if1 (by decide +kernel) ?_
  refine T_bN ?_
  refine T_of (fX11_needExisting.eq_1 ..) ?_
  refine T_ite (fun h1 => ?_) (fun h1 => ?_)
  · refine T_of (fX11_needExisting_J9.eq_1 ..) ?_
    refine T_if1 (by decide +kernel) ?_
    refine T_let 0 ((z_up_j (by decide)).trans ((z_up_j (by decide)).trans (by decide +kernel))) ?_
    refine T_let 1 (by decide +kernel) ?_
    refine T_if1 (by decide +kernel) ?_
    refine T_up ?_
    refine T_xN ?_
    refine T_x0I ?_
    refine T_rI ?_
    refine T_let 1 (by decide +kernel) ?_
    refine T_if1 (by decide) ?_
    refine T_let p1 q1 ?_
    refine T_let 2 (by decide +kernel) ?_
    refine T_if1 (by decide) ?_
    refine T_let p2 q2 ?_
    refine T_if1 (by decide +kernel) ?_
    refine T_bI ?_
    refine T_of (fX12_at.eq_1 ..) ?_
    refine T_if1 (by decide +kernel) ?_
    refine T_up0 ((z_up_k (by decide)).trans ((z_up_k (by decide)).trans ((z_up_k (by decide)).trans (by decide +kernel)))) ?_
    refine T_if1 (by decide +kernel) ?_
    refine T_bN ?_
    refine T_of (fX12_laysAll.eq_1 ..) ?_
    refine T_if1 (by decide +kernel) ?_
    refine T_bN ?_
    refine T_of (fX12_freshens.eq_1 ..) ?_
    refine T_if1 (by decide +kernel) ?_
    refine T_let 0 ((z_up_k (by decide)).trans ((z_up_k (by decide)).trans ((z_up_k (by decide)).trans (by decide +kernel)))) ?_
    refine T_if1 (by decide) ?_
    refine T_of (fX12_freshens_L10.eq_2 ..) ?_
    refine T_if1 (by decide +kernel) ?_
    refine T_let 0 ((z_up_k (by decide)).trans ((z_up_k (by decide)).trans ((z_up_k (by decide)).trans (by decide +kernel)))) ?_
    refine T_if1 (by decide) ?_
    refine T_if1 (by decide +kernel) ?_
    refine T_bN ?_
    refine T_of (fX12_laysPairs.eq_1 ..) ?_
    refine T_if1 (by decide +kernel) ?_
    refine T_up0 ((z_up_k (by decide)).trans ((z_up_k (by decide)).trans ((z_up_k (by decide)).trans (by decide +kernel)))) ?_
    refine T_if1 (by decide +kernel) ?_
    refine T_up0 ((z_up_k (by decide)).trans ((z_up_k (by decide)).trans ((z_up_k (by decide)).trans (by decide +kernel)))) ?_
    refine T_of (fX12_laysPairs_L14.eq_2 ..) ?_
    refine T_if1 (by decide +kernel) ?_
    refine T_let 0 ((z_up_k (by decide)).trans ((z_up_k (by decide)).trans ((z_up_k (by decide)).trans (by decide +kernel)))) ?_
    refine T_if1 (by decide) ?_
    refine T_rN ?_
    refine T_if1 (by decide +kernel) ?_
    refine T_up ?_
    refine T_if1 (by decide +kernel) ?_
    refine T_up0 ((z_up_j (by decide)).trans ((z_up_k (by decide)).trans ((z_up_k (by decide)).trans ((z_up_k (by decide)).trans (by decide +kernel))))) ?_
    refine T_rN ?_
    refine T_if1 (by decide +kernel) ?_
    refine T_let 0 ((z_up_j (by decide)).trans ((z_up_k (by decide)).trans ((z_up_k (by decide)).trans ((z_up_k (by decide)).trans (by decide +kernel))))) ?_
    refine T_if1 (by decide) ?_
    refine T_if1 (by decide +kernel) ?_
    refine T_let 312 (by decide +kernel) ?_
    refine T_if1 (by decide +kernel) ?_
    refine T_let 120 ((z_up_k (by decide)).trans ((z_up_k (by decide)).trans ((z_up_k (by decide)).trans ((z_up_k (by decide)).trans (by decide +kernel))))) ?_
    refine T_if1 (by decide +kernel) ?_
    refine T_let 312 (by decide +kernel) ?_
    refine T_if1 (by decide +kernel) ?_
    refine T_let 0 ((z_up_k (by decide)).trans ((z_up_k (by decide)).trans ((z_up_k (by decide)).trans ((z_up_k (by decide)).trans (by decide +kernel))))) ?_
    refine T_if1 (by decide +kernel) ?_
    refine T_bI ?_
    refine T_of (fX12_breaks.eq_1 ..) ?_
    refine T_if1 (by decide) ?_
    refine T_of (fX12_breaks_L15.eq_2 ..) ?_
    refine T_if1 (by decide +kernel) ?_
    refine T_let 0 ((z_up_j (by decide)).trans ((z_up_k (by decide)).trans ((z_up_k (by decide)).trans ((z_up_k (by decide)).trans (by decide +kernel))))) ?_
    refine T_if1 (by decide) ?_
    refine T_if1 (by decide +kernel) ?_
    refine T_let 3438 (by decide +kernel) ?_
    refine T_if1 (by decide +kernel) ?_
    refine T_let 0 ((z_up_j (by decide)).trans ((z_up_k (by decide)).trans ((z_up_k (by decide)).trans ((z_up_k (by decide)).trans (by decide +kernel))))) ?_
    refine T_if1 (by decide +kernel) ?_
    refine T_up0 ((z_up_k (by decide)).trans ((z_up_k (by decide)).trans ((z_up_k (by decide)).trans ((z_up_k (by decide)).trans (by decide +kernel))))) ?_
    refine T_rI ?_
    refine T_if1 (by decide +kernel) ?_
    refine T_up0 ((z_up_j (by decide)).trans ((z_up_k (by decide)).trans ((z_up_k (by decide)).trans ((z_up_k (by decide)).trans (by decide +kernel))))) ?_
    refine T_if1 (by decide +kernel) ?_
    refine T_up0 ((z_up_j (by decide)).trans ((z_up_k (by decide)).trans ((z_up_k (by decide)).trans ((z_up_k (by decide)).trans (by decide +kernel))))) ?_
    refine T_of (fX12_laysAll_L39.eq_2 ..) ?_
    refine T_if1 (by decide +kernel) ?_
    refine T_let 0 ((z_up_j (by decide)).trans ((z_up_k (by decide)).trans ((z_up_k (by decide)).trans ((z_up_k (by decide)).trans (by decide +kernel))))) ?_
    refine T_if1 (by decide) ?_
    refine T_if1 (by decide +kernel) ?_
    refine T_up ?_
    refine T_rN ?_
    refine T_if1 (by decide +kernel) ?_
    refine T_let 0 ((z_up_j (by decide)).trans ((z_up_j (by decide)).trans ((z_up_k (by decide)).trans ((z_up_k (by decide)).trans ((z_up_k (by decide)).trans (by decide +kernel)))))) ?_
    refine T_let (-1) (by decide +kernel) ?_
    refine T_bI ?_
    refine T_of (fX12_in.eq_1 ..) ?_
    refine T_if1 (by omega) ?_
    refine T_of (fX12_in_J14.eq_1 ..) ?_
    refine T_of (fX12_in_J15.eq_1 ..) ?_
    refine T_if1 (by decide) ?_
    refine T_rI ?_
    refine T_if0 (by decide) ?_
    refine T_of (fX12_at_J29.eq_1 ..) ?_
    refine T_if1 (by decide +kernel) ?_
    refine T_bI ?_
    refine T_of (fX12_bad.eq_1 ..) ?_
    refine T_if0 (by decide) ?_
    refine T_if1 (by decide +kernel) ?_
    refine T_let 0 ((z_up_j (by decide)).trans ((z_up_j (by decide)).trans ((z_up_k (by decide)).trans ((z_up_k (by decide)).trans ((z_up_k (by decide)).trans (by decide +kernel)))))) ?_
    refine T_if0 (by decide) ?_
    refine T_if1 (by decide +kernel) ?_
    refine T_up ?_
    refine T_if1 (by decide +kernel) ?_
    refine T_let 310 (by decide +kernel) ?_
    refine T_if1 (by decide +kernel) ?_
    refine T_let 0 ((z_up_k (by decide)).trans ((z_up_k (by decide)).trans ((z_up_k (by decide)).trans ((z_up_k (by decide)).trans ((z_up_k (by decide)).trans ((z_up_k (by decide)).trans (by decide +kernel))))))) ?_
    refine T_let 1 (by decide +kernel) ?_
    refine T_if1 (by decide +kernel) ?_
    refine T_up ?_
    refine T_of (fX12_bad_J26.eq_1 ..) ?_
    refine T_if1 (by decide +kernel) ?_
    refine T_let 1 ((z_up_k (by decide)).trans z_up_s) ?_
    refine T_if0 (by decide) ?_
    refine T_of (fX12_bad_J38.eq_1 ..) ?_
    refine T_if1 (by decide) ?_
    refine T_rI ?_
    refine T_if0 (by decide) ?_
    refine T_rI ?_
    refine T_if1 (by decide +kernel) ?_
    refine T_bI ?_
    refine T_of (fX12_thrown.eq_1 ..) ?_
    refine T_if1 (by decide +kernel) ?_
    refine T_let 1 ((z_up_k (by decide)).trans z_up_s) ?_
    refine T_rI ?_
    refine T_if1 (by decide) ?_
    refine T_if1 (by decide) ?_
    refine T_of (fL_law_J1087.eq_1 ..) ?_
    refine T_of (fL_law_J2073.eq_1 ..) ?_
    refine T_let 6 (by decide +kernel) ?_
    exact hr _
  · refine T_if0 (by omega) ?_
    refine T_of (fX11_needExisting_J9.eq_1 ..) ?_
    refine T_if1 (by decide +kernel) ?_
    refine T_let 0 ((z_up_j (by decide)).trans ((z_up_j (by decide)).trans (by decide +kernel))) ?_
    refine T_let 1 (by decide +kernel) ?_
    refine T_if1 (by decide +kernel) ?_
    refine T_up ?_
    refine T_xN ?_
    refine T_x0I ?_
    refine T_rI ?_
    refine T_let 1 (by decide +kernel) ?_
    refine T_if1 (by decide) ?_
    refine T_let p1 q1 ?_
    refine T_let 2 (by decide +kernel) ?_
    refine T_if1 (by decide) ?_
    refine T_let p2 q2 ?_
    refine T_if1 (by decide +kernel) ?_
    refine T_bI ?_
    refine T_of (fX12_at.eq_1 ..) ?_
    refine T_if1 (by decide +kernel) ?_
    refine T_up0 ((z_up_k (by decide)).trans ((z_up_k (by decide)).trans ((z_up_k (by decide)).trans (by decide +kernel)))) ?_
    refine T_if1 (by decide +kernel) ?_
    refine T_bN ?_
    refine T_of (fX12_laysAll.eq_1 ..) ?_
    refine T_if1 (by decide +kernel) ?_
    refine T_bN ?_
    refine T_of (fX12_freshens.eq_1 ..) ?_
    refine T_if1 (by decide +kernel) ?_
    refine T_let 0 ((z_up_k (by decide)).trans ((z_up_k (by decide)).trans ((z_up_k (by decide)).trans (by decide +kernel)))) ?_
    refine T_if1 (by decide) ?_
    refine T_of (fX12_freshens_L10.eq_2 ..) ?_
    refine T_if1 (by decide +kernel) ?_
    refine T_let 0 ((z_up_k (by decide)).trans ((z_up_k (by decide)).trans ((z_up_k (by decide)).trans (by decide +kernel)))) ?_
    refine T_if1 (by decide) ?_
    refine T_if1 (by decide +kernel) ?_
    refine T_bN ?_
    refine T_of (fX12_laysPairs.eq_1 ..) ?_
    refine T_if1 (by decide +kernel) ?_
    refine T_up0 ((z_up_k (by decide)).trans ((z_up_k (by decide)).trans ((z_up_k (by decide)).trans (by decide +kernel)))) ?_
    refine T_if1 (by decide +kernel) ?_
    refine T_up0 ((z_up_k (by decide)).trans ((z_up_k (by decide)).trans ((z_up_k (by decide)).trans (by decide +kernel)))) ?_
    refine T_of (fX12_laysPairs_L14.eq_2 ..) ?_
    refine T_if1 (by decide +kernel) ?_
    refine T_let 0 ((z_up_k (by decide)).trans ((z_up_k (by decide)).trans ((z_up_k (by decide)).trans (by decide +kernel)))) ?_
    refine T_if1 (by decide) ?_
    refine T_rN ?_
    refine T_if1 (by decide +kernel) ?_
    refine T_up ?_
    refine T_if1 (by decide +kernel) ?_
    refine T_up0 ((z_up_j (by decide)).trans ((z_up_k (by decide)).trans ((z_up_k (by decide)).trans ((z_up_k (by decide)).trans (by decide +kernel))))) ?_
    refine T_rN ?_
    refine T_if1 (by decide +kernel) ?_
    refine T_let 0 ((z_up_j (by decide)).trans ((z_up_k (by decide)).trans ((z_up_k (by decide)).trans ((z_up_k (by decide)).trans (by decide +kernel))))) ?_
    refine T_if1 (by decide) ?_
    refine T_if1 (by decide +kernel) ?_
    refine T_let 312 (by decide +kernel) ?_
    refine T_if1 (by decide +kernel) ?_
    refine T_let 120 ((z_up_k (by decide)).trans ((z_up_k (by decide)).trans ((z_up_k (by decide)).trans ((z_up_k (by decide)).trans (by decide +kernel))))) ?_
    refine T_if1 (by decide +kernel) ?_
    refine T_let 312 (by decide +kernel) ?_
    refine T_if1 (by decide +kernel) ?_
    refine T_let 0 ((z_up_k (by decide)).trans ((z_up_k (by decide)).trans ((z_up_k (by decide)).trans ((z_up_k (by decide)).trans (by decide +kernel))))) ?_
    refine T_if1 (by decide +kernel) ?_
    refine T_bI ?_
    refine T_of (fX12_breaks.eq_1 ..) ?_
    refine T_if1 (by decide) ?_
    refine T_of (fX12_breaks_L15.eq_2 ..) ?_
    refine T_if1 (by decide +kernel) ?_
    refine T_let 0 ((z_up_j (by decide)).trans ((z_up_k (by decide)).trans ((z_up_k (by decide)).trans ((z_up_k (by decide)).trans (by decide +kernel))))) ?_
    refine T_if1 (by decide) ?_
    refine T_if1 (by decide +kernel) ?_
    refine T_let 3438 (by decide +kernel) ?_
    refine T_if1 (by decide +kernel) ?_
    refine T_let 0 ((z_up_j (by decide)).trans ((z_up_k (by decide)).trans ((z_up_k (by decide)).trans ((z_up_k (by decide)).trans (by decide +kernel))))) ?_
    refine T_if1 (by decide +kernel) ?_
    refine T_up0 ((z_up_k (by decide)).trans ((z_up_k (by decide)).trans ((z_up_k (by decide)).trans ((z_up_k (by decide)).trans (by decide +kernel))))) ?_
    refine T_rI ?_
    refine T_if1 (by decide +kernel) ?_
    refine T_up0 ((z_up_j (by decide)).trans ((z_up_k (by decide)).trans ((z_up_k (by decide)).trans ((z_up_k (by decide)).trans (by decide +kernel))))) ?_
    refine T_if1 (by decide +kernel) ?_
    refine T_up0 ((z_up_j (by decide)).trans ((z_up_k (by decide)).trans ((z_up_k (by decide)).trans ((z_up_k (by decide)).trans (by decide +kernel))))) ?_
    refine T_of (fX12_laysAll_L39.eq_2 ..) ?_
    refine T_if1 (by decide +kernel) ?_
    refine T_let 0 ((z_up_j (by decide)).trans ((z_up_k (by decide)).trans ((z_up_k (by decide)).trans ((z_up_k (by decide)).trans (by decide +kernel))))) ?_
    refine T_if1 (by decide) ?_
    refine T_if1 (by decide +kernel) ?_
    refine T_up ?_
    refine T_rN ?_
    refine T_if1 (by decide +kernel) ?_
    refine T_let 0 ((z_up_j (by decide)).trans ((z_up_j (by decide)).trans ((z_up_k (by decide)).trans ((z_up_k (by decide)).trans ((z_up_k (by decide)).trans (by decide +kernel)))))) ?_
    refine T_let (-1) (by decide +kernel) ?_
    refine T_bI ?_
    refine T_of (fX12_in.eq_1 ..) ?_
    refine T_if0 (by omega) ?_
    refine T_if1 (by omega) ?_
    refine T_of (fX12_in_J14.eq_1 ..) ?_
    refine T_of (fX12_in_J15.eq_1 ..) ?_
    refine T_if1 (by decide) ?_
    refine T_rI ?_
    refine T_if0 (by decide) ?_
    refine T_of (fX12_at_J29.eq_1 ..) ?_
    refine T_if1 (by decide +kernel) ?_
    refine T_bI ?_
    refine T_of (fX12_bad.eq_1 ..) ?_
    refine T_if0 (by decide) ?_
    refine T_if1 (by decide +kernel) ?_
    refine T_let 0 ((z_up_j (by decide)).trans ((z_up_j (by decide)).trans ((z_up_k (by decide)).trans ((z_up_k (by decide)).trans ((z_up_k (by decide)).trans (by decide +kernel)))))) ?_
    refine T_if0 (by decide) ?_
    refine T_if1 (by decide +kernel) ?_
    refine T_up ?_
    refine T_if1 (by decide +kernel) ?_
    refine T_let 310 (by decide +kernel) ?_
    refine T_if1 (by decide +kernel) ?_
    refine T_let 0 ((z_up_k (by decide)).trans ((z_up_k (by decide)).trans ((z_up_k (by decide)).trans ((z_up_k (by decide)).trans ((z_up_k (by decide)).trans ((z_up_k (by decide)).trans (by decide +kernel))))))) ?_
    refine T_let 1 (by decide +kernel) ?_
    refine T_if1 (by decide +kernel) ?_
    refine T_up ?_
    refine T_of (fX12_bad_J26.eq_1 ..) ?_
    refine T_if1 (by decide +kernel) ?_
    refine T_let 1 ((z_up_k (by decide)).trans z_up_s) ?_
    refine T_if0 (by decide) ?_
    refine T_of (fX12_bad_J38.eq_1 ..) ?_
    refine T_if1 (by decide) ?_
    refine T_rI ?_
    refine T_if0 (by decide) ?_
    refine T_rI ?_
    refine T_if1 (by decide +kernel) ?_
    refine T_bI ?_
    refine T_of (fX12_thrown.eq_1 ..) ?_
    refine T_if1 (by decide +kernel) ?_
    refine T_let 1 ((z_up_k (by decide)).trans z_up_s) ?_
    refine T_rI ?_
    refine T_if1 (by decide) ?_
    refine T_if1 (by decide) ?_
    refine T_of (fL_law_J1087.eq_1 ..) ?_
    refine T_of (fL_law_J2073.eq_1 ..) ?_
    refine T_let 6 (by decide +kernel) ?_
    exact hr _
theorem c_1090 {xs : Nat → Int32} {r : z_M → Int → z_O} {k : z_M → z_O} {P : z_V → z_M → Prop} {p1 p2 p3 p4 p5 : Int} (q1 : Int32.toInt (xs 1) = p1) (q2 : Int32.toInt (xs 2) = p2) (q3 : Int32.toInt (xs 3) = p3) (q4 : Int32.toInt (xs 4) = p4) (q5 : Int32.toInt (xs 5) = p5) (hr : ∀ s, z_T (r s 6) P) : z_T (fL_law_J1090 1000 6 xs z_s0 1 309 7658 0 r k) P := by
  refine T_of (fL_law_J1090.eq_1 ..) ?_
  refine T_let 1 (by decide +kernel) ?_
  refine T_if1 (by decide) ?_
  refine T_let p1 q1 ?_
  refine T_bI ?_
  refine T_of (fL_ends.eq_1 ..) ?_
  refine T_if1 (by decide +kernel) ?_
  refine T_cI ?_
  refine T_of (fX11_ends.eq_1 ..) ?_
  refine T_if1 (by decide +kernel) ?_
  refine T_bN ?_
  refine T_of e_refresh ?_
  refine T_rN ?_
  refine T_if1 (by decide +kernel) ?_
  refine T_let 191 (by decide +kernel) ?_
  refine T_if1 (by decide +kernel) ?_
  refine T_let 0 ((z_up_k (by decide)).trans ((z_up_k (by decide)).trans (by decide +kernel))) ?_
  refine T_if1 (by decide +kernel) ?_
  refine T_bN ?_
  refine T_of (fX11_needExisting.eq_1 ..) ?_
  refine T_ite (fun h1 => ?_) (fun h1 => ?_)
  · refine T_of (fX11_needExisting_J9.eq_1 ..) ?_
    refine T_if1 (by decide +kernel) ?_
    refine T_let 0 ((z_up_j (by decide)).trans ((z_up_j (by decide)).trans (by decide +kernel))) ?_
    refine T_let 1 (by decide +kernel) ?_
    refine T_if1 (by decide +kernel) ?_
    refine T_up ?_
    refine T_xN ?_
    refine T_x0I ?_
    refine T_rI ?_
    refine T_let 1 (by decide +kernel) ?_
    refine T_if1 (by decide) ?_
    refine T_let p1 q1 ?_
    refine T_if1 (by decide +kernel) ?_
    refine T_bI ?_
    refine T_of (fX12_ends.eq_1 ..) ?_
    refine T_if1 (by decide +kernel) ?_
    refine T_up0 ((z_up_k (by decide)).trans ((z_up_k (by decide)).trans ((z_up_k (by decide)).trans (by decide +kernel)))) ?_
    refine T_if1 (by decide +kernel) ?_
    refine T_bI ?_
    refine T_of (fX12_isUnit.eq_1 ..) ?_
    refine T_if1 (by decide +kernel) ?_
    refine T_let 0 ((z_up_k (by decide)).trans ((z_up_k (by decide)).trans ((z_up_k (by decide)).trans (by decide +kernel)))) ?_
    refine T_let (-1) (by decide +kernel) ?_
    refine T_bI ?_
    refine T_of (fX12_in.eq_1 ..) ?_
    refine T_if1 (by omega) ?_
    refine T_of (fX12_in_J14.eq_1 ..) ?_
    refine T_of (fX12_in_J15.eq_1 ..) ?_
    refine T_if1 (by decide) ?_
    refine T_rI ?_
    refine T_if1 (by decide) ?_
    refine T_rI ?_
    refine T_if0 (by decide) ?_
    refine T_of (fX12_ends_J19.eq_1 ..) ?_
    refine T_if1 (by decide +kernel) ?_
    refine T_bI ?_
    refine T_of (fX12_bad.eq_1 ..) ?_
    refine T_if0 (by decide) ?_
    refine T_if1 (by decide +kernel) ?_
    refine T_let 0 ((z_up_k (by decide)).trans ((z_up_k (by decide)).trans ((z_up_k (by decide)).trans (by decide +kernel)))) ?_
    refine T_if0 (by decide) ?_
    refine T_if1 (by decide +kernel) ?_
    refine T_up ?_
    refine T_if1 (by decide +kernel) ?_
    refine T_let 310 (by decide +kernel) ?_
    refine T_if1 (by decide +kernel) ?_
    refine T_let 0 ((z_up_k (by decide)).trans ((z_up_k (by decide)).trans ((z_up_k (by decide)).trans ((z_up_k (by decide)).trans (by decide +kernel))))) ?_
    refine T_let 1 (by decide +kernel) ?_
    refine T_if1 (by decide +kernel) ?_
    refine T_up ?_
    refine T_of (fX12_bad_J26.eq_1 ..) ?_
    refine T_if1 (by decide +kernel) ?_
    refine T_let 1 ((z_up_k (by decide)).trans z_up_s) ?_
    refine T_if0 (by decide) ?_
    refine T_of (fX12_bad_J38.eq_1 ..) ?_
    refine T_if1 (by decide) ?_
    refine T_rI ?_
    refine T_if0 (by decide) ?_
    refine T_if1 (by decide) ?_
    refine T_rI ?_
    refine T_if1 (by decide +kernel) ?_
    refine T_bI ?_
    refine T_of (fX12_thrown.eq_1 ..) ?_
    refine T_if1 (by decide +kernel) ?_
    refine T_let 1 ((z_up_k (by decide)).trans z_up_s) ?_
    refine T_rI ?_
    refine T_if1 (by decide) ?_
    refine T_if1 (by decide) ?_
    refine T_of (fL_law_J1150.eq_1 ..) ?_
    refine T_of (fL_law_J2073.eq_1 ..) ?_
    refine T_let 6 (by decide +kernel) ?_
    exact hr _
  · refine T_if0 (by omega) ?_
    refine T_of (fX11_needExisting_J9.eq_1 ..) ?_
    refine T_if1 (by decide +kernel) ?_
    refine T_let 0 ((z_up_j (by decide)).trans ((z_up_j (by decide)).trans (by decide +kernel))) ?_
    refine T_let 1 (by decide +kernel) ?_
    refine T_if1 (by decide +kernel) ?_
    refine T_up ?_
    refine T_xN ?_
    refine T_x0I ?_
    refine T_rI ?_
    refine T_let 1 (by decide +kernel) ?_
    refine T_if1 (by decide) ?_
    refine T_let p1 q1 ?_
    refine T_if1 (by decide +kernel) ?_
    refine T_bI ?_
    refine T_of (fX12_ends.eq_1 ..) ?_
    refine T_if1 (by decide +kernel) ?_
    refine T_up0 ((z_up_k (by decide)).trans ((z_up_k (by decide)).trans ((z_up_k (by decide)).trans (by decide +kernel)))) ?_
    refine T_if1 (by decide +kernel) ?_
    refine T_bI ?_
    refine T_of (fX12_isUnit.eq_1 ..) ?_
    refine T_if1 (by decide +kernel) ?_
    refine T_let 0 ((z_up_k (by decide)).trans ((z_up_k (by decide)).trans ((z_up_k (by decide)).trans (by decide +kernel)))) ?_
    refine T_let (-1) (by decide +kernel) ?_
    refine T_bI ?_
    refine T_of (fX12_in.eq_1 ..) ?_
    refine T_if0 (by omega) ?_
    refine T_if1 (by omega) ?_
    refine T_of (fX12_in_J14.eq_1 ..) ?_
    refine T_of (fX12_in_J15.eq_1 ..) ?_
    refine T_if1 (by decide) ?_
    refine T_rI ?_
    refine T_if1 (by decide) ?_
    refine T_rI ?_
    refine T_if0 (by decide) ?_
    refine T_of (fX12_ends_J19.eq_1 ..) ?_
    refine T_if1 (by decide +kernel) ?_
    refine T_bI ?_
    refine T_of (fX12_bad.eq_1 ..) ?_
    refine T_if0 (by decide) ?_
    refine T_if1 (by decide +kernel) ?_
    refine T_let 0 ((z_up_k (by decide)).trans ((z_up_k (by decide)).trans ((z_up_k (by decide)).trans (by decide +kernel)))) ?_
    refine T_if0 (by decide) ?_
    refine T_if1 (by decide +kernel) ?_
    refine T_up ?_
    refine T_if1 (by decide +kernel) ?_
    refine T_let 310 (by decide +kernel) ?_
    refine T_if1 (by decide +kernel) ?_
    refine T_let 0 ((z_up_k (by decide)).trans ((z_up_k (by decide)).trans ((z_up_k (by decide)).trans ((z_up_k (by decide)).trans (by decide +kernel))))) ?_
    refine T_let 1 (by decide +kernel) ?_
    refine T_if1 (by decide +kernel) ?_
    refine T_up ?_
    refine T_of (fX12_bad_J26.eq_1 ..) ?_
    refine T_if1 (by decide +kernel) ?_
    refine T_let 1 ((z_up_k (by decide)).trans z_up_s) ?_
    refine T_if0 (by decide) ?_
    refine T_of (fX12_bad_J38.eq_1 ..) ?_
    refine T_if1 (by decide) ?_
    refine T_rI ?_
    refine T_if0 (by decide) ?_
    refine T_if1 (by decide) ?_
    refine T_rI ?_
    refine T_if1 (by decide +kernel) ?_
    refine T_bI ?_
    refine T_of (fX12_thrown.eq_1 ..) ?_
    refine T_if1 (by decide +kernel) ?_
    refine T_let 1 ((z_up_k (by decide)).trans z_up_s) ?_
    refine T_rI ?_
    refine T_if1 (by decide) ?_
    refine T_if1 (by decide) ?_
    refine T_of (fL_law_J1150.eq_1 ..) ?_
    refine T_of (fL_law_J2073.eq_1 ..) ?_
    refine T_let 6 (by decide +kernel) ?_
    exact hr _
theorem c_1153 {xs : Nat → Int32} {r : z_M → Int → z_O} {k : z_M → z_O} {P : z_V → z_M → Prop} {p1 p2 p3 p4 p5 : Int} (q1 : Int32.toInt (xs 1) = p1) (q2 : Int32.toInt (xs 2) = p2) (q3 : Int32.toInt (xs 3) = p3) (q4 : Int32.toInt (xs 4) = p4) (q5 : Int32.toInt (xs 5) = p5) (hr : ∀ s, z_T (r s 6) P) : z_T (fL_law_J1153 1000 6 xs z_s0 1 309 7658 0 r k) P := by
  refine T_of (fL_law_J1153.eq_1 ..) ?_
  refine T_let 1 (by decide +kernel) ?_
  refine T_if1 (by decide) ?_
  refine T_let p1 q1 ?_
  refine T_let 2 (by decide +kernel) ?_
  refine T_if1 (by decide) ?_
  refine T_let p2 q2 ?_
  refine T_bI ?_
  refine T_of (fL_longOf.eq_1 ..) ?_
  refine T_if1 (by decide +kernel) ?_
  refine T_cI ?_
  refine T_of (fX11_longOf.eq_1 ..) ?_
  refine T_if1 (by decide +kernel) ?_
  refine T_bN ?_
  refine T_of e_refresh ?_
  refine T_rN ?_
  refine T_if1 (by decide +kernel) ?_
  refine T_let 191 (by decide +kernel) ?_
  refine T_if1 (by decide +kernel) ?_
  refine T_let 0 ((z_up_k (by decide)).trans ((z_up_k (by decide)).trans (by decide +kernel))) ?_
  refine T_if1 (by decide +kernel) ?_
  refine T_bN ?_
  refine T_of (fX11_needExisting.eq_1 ..) ?_
  refine T_ite (fun h1 => ?_) (fun h1 => ?_)
  · refine T_of (fX11_needExisting_J9.eq_1 ..) ?_
    refine T_if1 (by decide +kernel) ?_
    refine T_let 0 ((z_up_j (by decide)).trans ((z_up_j (by decide)).trans (by decide +kernel))) ?_
    refine T_let 1 (by decide +kernel) ?_
    refine T_if1 (by decide +kernel) ?_
    refine T_up ?_
    refine T_xN ?_
    refine T_x0I ?_
    refine T_rI ?_
    refine T_let 1 (by decide +kernel) ?_
    refine T_if1 (by decide) ?_
    refine T_let p1 q1 ?_
    refine T_let 2 (by decide +kernel) ?_
    refine T_if1 (by decide) ?_
    refine T_let p2 q2 ?_
    refine T_if1 (by decide +kernel) ?_
    refine T_bI ?_
    refine T_of (fX12_longOf.eq_1 ..) ?_
    refine T_if1 (by decide +kernel) ?_
    refine T_up0 ((z_up_k (by decide)).trans ((z_up_k (by decide)).trans ((z_up_k (by decide)).trans (by decide +kernel)))) ?_
    refine T_if1 (by decide +kernel) ?_
    refine T_bI ?_
    refine T_of (fX12_isUnit.eq_1 ..) ?_
    refine T_if1 (by decide +kernel) ?_
    refine T_let 0 ((z_up_k (by decide)).trans ((z_up_k (by decide)).trans ((z_up_k (by decide)).trans (by decide +kernel)))) ?_
    refine T_let (-1) (by decide +kernel) ?_
    refine T_bI ?_
    refine T_of (fX12_in.eq_1 ..) ?_
    refine T_if1 (by omega) ?_
    refine T_of (fX12_in_J14.eq_1 ..) ?_
    refine T_of (fX12_in_J15.eq_1 ..) ?_
    refine T_if1 (by decide) ?_
    refine T_rI ?_
    refine T_if1 (by decide) ?_
    refine T_rI ?_
    refine T_if1 (by decide) ?_
    refine T_of (fX12_longOf_J22.eq_1 ..) ?_
    refine T_of (fX12_longOf_J27.eq_1 ..) ?_
    refine T_if1 (by decide +kernel) ?_
    refine T_bI ?_
    refine T_of (fX12_bad.eq_1 ..) ?_
    refine T_if0 (by decide) ?_
    refine T_if1 (by decide +kernel) ?_
    refine T_let 0 ((z_up_k (by decide)).trans ((z_up_k (by decide)).trans ((z_up_k (by decide)).trans (by decide +kernel)))) ?_
    refine T_if0 (by decide) ?_
    refine T_if1 (by decide +kernel) ?_
    refine T_up ?_
    refine T_if1 (by decide +kernel) ?_
    refine T_let 310 (by decide +kernel) ?_
    refine T_if1 (by decide +kernel) ?_
    refine T_let 0 ((z_up_k (by decide)).trans ((z_up_k (by decide)).trans ((z_up_k (by decide)).trans ((z_up_k (by decide)).trans (by decide +kernel))))) ?_
    refine T_let 1 (by decide +kernel) ?_
    refine T_if1 (by decide +kernel) ?_
    refine T_up ?_
    refine T_of (fX12_bad_J26.eq_1 ..) ?_
    refine T_if1 (by decide +kernel) ?_
    refine T_let 1 ((z_up_k (by decide)).trans z_up_s) ?_
    refine T_if0 (by decide) ?_
    refine T_of (fX12_bad_J38.eq_1 ..) ?_
    refine T_if1 (by decide) ?_
    refine T_rI ?_
    refine T_if1 (by decide) ?_
    refine T_of (fX12_longOf_J54.eq_1 ..) ?_
    refine T_rI ?_
    refine T_if1 (by decide +kernel) ?_
    refine T_bI ?_
    refine T_of (fX12_thrown.eq_1 ..) ?_
    refine T_if1 (by decide +kernel) ?_
    refine T_let 1 ((z_up_k (by decide)).trans z_up_s) ?_
    refine T_rI ?_
    refine T_if1 (by decide) ?_
    refine T_if1 (by decide) ?_
    refine T_of (fL_law_J1218.eq_1 ..) ?_
    refine T_of (fL_law_J2073.eq_1 ..) ?_
    refine T_let 6 (by decide +kernel) ?_
    exact hr _
  · refine T_if0 (by omega) ?_
    refine T_of (fX11_needExisting_J9.eq_1 ..) ?_
    refine T_if1 (by decide +kernel) ?_
    refine T_let 0 ((z_up_j (by decide)).trans ((z_up_j (by decide)).trans (by decide +kernel))) ?_
    refine T_let 1 (by decide +kernel) ?_
    refine T_if1 (by decide +kernel) ?_
    refine T_up ?_
    refine T_xN ?_
    refine T_x0I ?_
    refine T_rI ?_
    refine T_let 1 (by decide +kernel) ?_
    refine T_if1 (by decide) ?_
    refine T_let p1 q1 ?_
    refine T_let 2 (by decide +kernel) ?_
    refine T_if1 (by decide) ?_
    refine T_let p2 q2 ?_
    refine T_if1 (by decide +kernel) ?_
    refine T_bI ?_
    refine T_of (fX12_longOf.eq_1 ..) ?_
    refine T_if1 (by decide +kernel) ?_
    refine T_up0 ((z_up_k (by decide)).trans ((z_up_k (by decide)).trans ((z_up_k (by decide)).trans (by decide +kernel)))) ?_
    refine T_if1 (by decide +kernel) ?_
    refine T_bI ?_
    refine T_of (fX12_isUnit.eq_1 ..) ?_
    refine T_if1 (by decide +kernel) ?_
    refine T_let 0 ((z_up_k (by decide)).trans ((z_up_k (by decide)).trans ((z_up_k (by decide)).trans (by decide +kernel)))) ?_
    refine T_let (-1) (by decide +kernel) ?_
    refine T_bI ?_
    refine T_of (fX12_in.eq_1 ..) ?_
    refine T_if0 (by omega) ?_
    refine T_if1 (by omega) ?_
    refine T_of (fX12_in_J14.eq_1 ..) ?_
    refine T_of (fX12_in_J15.eq_1 ..) ?_
    refine T_if1 (by decide) ?_
    refine T_rI ?_
    refine T_if1 (by decide) ?_
    refine T_rI ?_
    refine T_if1 (by decide) ?_
    refine T_of (fX12_longOf_J22.eq_1 ..) ?_
    refine T_of (fX12_longOf_J27.eq_1 ..) ?_
    refine T_if1 (by decide +kernel) ?_
    refine T_bI ?_
    refine T_of (fX12_bad.eq_1 ..) ?_
    refine T_if0 (by decide) ?_
    refine T_if1 (by decide +kernel) ?_
    refine T_let 0 ((z_up_k (by decide)).trans ((z_up_k (by decide)).trans ((z_up_k (by decide)).trans (by decide +kernel)))) ?_
    refine T_if0 (by decide) ?_
    refine T_if1 (by decide +kernel) ?_
    refine T_up ?_
    refine T_if1 (by decide +kernel) ?_
    refine T_let 310 (by decide +kernel) ?_
    refine T_if1 (by decide +kernel) ?_
    refine T_let 0 ((z_up_k (by decide)).trans ((z_up_k (by decide)).trans ((z_up_k (by decide)).trans ((z_up_k (by decide)).trans (by decide +kernel))))) ?_
    refine T_let 1 (by decide +kernel) ?_
    refine T_if1 (by decide +kernel) ?_
    refine T_up ?_
    refine T_of (fX12_bad_J26.eq_1 ..) ?_
    refine T_if1 (by decide +kernel) ?_
    refine T_let 1 ((z_up_k (by decide)).trans z_up_s) ?_
    refine T_if0 (by decide) ?_
    refine T_of (fX12_bad_J38.eq_1 ..) ?_
    refine T_if1 (by decide) ?_
    refine T_rI ?_
    refine T_if1 (by decide) ?_
    refine T_of (fX12_longOf_J54.eq_1 ..) ?_
    refine T_rI ?_
    refine T_if1 (by decide +kernel) ?_
    refine T_bI ?_
    refine T_of (fX12_thrown.eq_1 ..) ?_
    refine T_if1 (by decide +kernel) ?_
    refine T_let 1 ((z_up_k (by decide)).trans z_up_s) ?_
    refine T_rI ?_
    refine T_if1 (by decide) ?_
    refine T_if1 (by decide) ?_
    refine T_of (fL_law_J1218.eq_1 ..) ?_
    refine T_of (fL_law_J2073.eq_1 ..) ?_
    refine T_let 6 (by decide +kernel) ?_
    exact hr _
theorem c_1221 {xs : Nat → Int32} {r : z_M → Int → z_O} {k : z_M → z_O} {P : z_V → z_M → Prop} {p1 p2 p3 p4 p5 : Int} (q1 : Int32.toInt (xs 1) = p1) (q2 : Int32.toInt (xs 2) = p2) (q3 : Int32.toInt (xs 3) = p3) (q4 : Int32.toInt (xs 4) = p4) (q5 : Int32.toInt (xs 5) = p5) (hr : ∀ s, z_T (r s 6) P) : z_T (fL_law_J1221 1000 6 xs z_s0 1 309 7658 0 r k) P := by
  refine T_of (fL_law_J1221.eq_1 ..) ?_
  refine T_let 1 (by decide +kernel) ?_
  refine T_if1 (by decide) ?_
  refine T_let p1 q1 ?_
  refine T_let 2 (by decide +kernel) ?_
  refine T_if1 (by decide) ?_
  refine T_let p2 q2 ?_
  refine T_bI ?_
  refine T_of (fL_lines.eq_1 ..) ?_
  refine T_if1 (by decide +kernel) ?_
  refine T_cI ?_
  refine T_of (fX11_lines.eq_1 ..) ?_
  refine T_bI ?_
  refine T_of (fX11_pick.eq_1 ..) ?_
  refine T_if0 (by decide) ?_
  refine T_if1 (by decide +kernel) ?_
  refine T_if0 (by decide) ?_
  refine T_if1 (by decide +kernel) ?_
  refine T_let 12 (by decide +kernel) ?_
  refine T_of (fX11_pick_J17.eq_1 ..) ?_
  refine T_rI ?_
  refine T_bI ?_
  refine T_of (fX11_pick.eq_1 ..) ?_
  refine T_if0 (by decide) ?_
  refine T_if1 (by decide +kernel) ?_
  refine T_if0 (by decide) ?_
  refine T_if1 (by decide +kernel) ?_
  refine T_let 999 (by decide +kernel) ?_
  refine T_of (fX11_pick_J17.eq_1 ..) ?_
  refine T_rI ?_
  refine T_if1 (by decide +kernel) ?_
  refine T_bN ?_
  refine T_of (fX11_needWithin.eq_1 ..) ?_
  refine T_ite (fun h1 => ?_) (fun h1 => ?_)
  · refine T_of (fX11_needWithin_J10.eq_1 ..) ?_
    refine T_if1 (by decide +kernel) ?_
    refine T_let 0 (by decide +kernel) ?_
    refine T_let 1 (by decide +kernel) ?_
    refine T_if1 (by decide +kernel) ?_
    refine T_up ?_
    refine T_xN ?_
    refine T_x1I ?_
    refine T_rI ?_
    refine T_let 1 (by decide +kernel) ?_
    refine T_if1 (by decide) ?_
    refine T_let p1 q1 ?_
    refine T_let 2 (by decide +kernel) ?_
    refine T_if1 (by decide) ?_
    refine T_let p2 q2 ?_
    refine T_if1 (by decide +kernel) ?_
    refine T_bI ?_
    refine T_of (fX12_lines.eq_1 ..) ?_
    refine T_if1 (by decide +kernel) ?_
    refine T_up0 ((z_up_k (by decide)).trans (by decide +kernel)) ?_
    refine T_bI ?_
    refine T_of (fX12_in.eq_1 ..) ?_
    refine T_if1 (by omega) ?_
    refine T_of (fX12_in_J14.eq_1 ..) ?_
    refine T_of (fX12_in_J15.eq_1 ..) ?_
    refine T_if1 (by decide) ?_
    refine T_rI ?_
    refine T_if1 (by decide) ?_
    refine T_of (fX12_lines_J27.eq_1 ..) ?_
    refine T_of (fX12_lines_J32.eq_1 ..) ?_
    refine T_if1 (by decide +kernel) ?_
    refine T_bI ?_
    refine T_of (fX12_bad.eq_1 ..) ?_
    refine T_if0 (by decide) ?_
    refine T_if1 (by decide +kernel) ?_
    refine T_let 0 ((z_up_k (by decide)).trans (by decide +kernel)) ?_
    refine T_if0 (by decide) ?_
    refine T_if1 (by decide +kernel) ?_
    refine T_up ?_
    refine T_if1 (by decide +kernel) ?_
    refine T_let 310 (by decide +kernel) ?_
    refine T_if1 (by decide +kernel) ?_
    refine T_let 0 ((z_up_k (by decide)).trans ((z_up_k (by decide)).trans (by decide +kernel))) ?_
    refine T_let 1 (by decide +kernel) ?_
    refine T_if1 (by decide +kernel) ?_
    refine T_up ?_
    refine T_of (fX12_bad_J26.eq_1 ..) ?_
    refine T_if1 (by decide +kernel) ?_
    refine T_let 1 ((z_up_k (by decide)).trans z_up_s) ?_
    refine T_if0 (by decide) ?_
    refine T_of (fX12_bad_J38.eq_1 ..) ?_
    refine T_if1 (by decide) ?_
    refine T_rI ?_
    refine T_if0 (by decide) ?_
    refine T_rI ?_
    refine T_if1 (by decide +kernel) ?_
    refine T_bI ?_
    refine T_of (fX12_thrown.eq_1 ..) ?_
    refine T_if1 (by decide +kernel) ?_
    refine T_let 1 ((z_up_k (by decide)).trans z_up_s) ?_
    refine T_rI ?_
    refine T_if1 (by decide) ?_
    refine T_if1 (by decide) ?_
    refine T_of (fL_law_J1286.eq_1 ..) ?_
    refine T_of (fL_law_J2073.eq_1 ..) ?_
    refine T_let 6 (by decide +kernel) ?_
    exact hr _
  · refine T_ite (fun h2 => ?_) (fun h2 => ?_)
    · refine T_rN ?_
      refine T_if1 (by decide +kernel) ?_
      refine T_bN ?_
      refine T_of (fX11_needWithin.eq_1 ..) ?_
      refine T_ite (fun h3 => ?_) (fun h3 => ?_)
      · refine T_of (fX11_needWithin_J10.eq_1 ..) ?_
        refine T_if1 (by decide +kernel) ?_
        refine T_let 0 (by decide +kernel) ?_
        refine T_let 1 (by decide +kernel) ?_
        refine T_if1 (by decide +kernel) ?_
        refine T_up ?_
        refine T_xN ?_
        refine T_x1I ?_
        refine T_rI ?_
        refine T_let 1 (by decide +kernel) ?_
        refine T_if1 (by decide) ?_
        refine T_let p1 q1 ?_
        refine T_let 2 (by decide +kernel) ?_
        refine T_if1 (by decide) ?_
        refine T_let p2 q2 ?_
        refine T_if1 (by decide +kernel) ?_
        refine T_bI ?_
        refine T_of (fX12_lines.eq_1 ..) ?_
        refine T_if1 (by decide +kernel) ?_
        refine T_up0 ((z_up_k (by decide)).trans (by decide +kernel)) ?_
        refine T_bI ?_
        refine T_of (fX12_in.eq_1 ..) ?_
        refine T_if0 (by omega) ?_
        refine T_if0 (by omega) ?_
        refine T_of (fX12_in_J15.eq_1 ..) ?_
        refine T_if1 (by decide) ?_
        refine T_rI ?_
        refine T_if0 (by decide) ?_
        refine T_bI ?_
        refine T_of (fX12_in.eq_1 ..) ?_
        refine T_if1 (by omega) ?_
        refine T_of (fX12_in_J14.eq_1 ..) ?_
        refine T_of (fX12_in_J15.eq_1 ..) ?_
        refine T_if1 (by decide) ?_
        refine T_rI ?_
        refine T_if0 (by decide) ?_
        refine T_of (fX12_lines_J27.eq_1 ..) ?_
        refine T_of (fX12_lines_J32.eq_1 ..) ?_
        refine T_if1 (by decide +kernel) ?_
        refine T_bI ?_
        refine T_of (fX12_bad.eq_1 ..) ?_
        refine T_if0 (by decide) ?_
        refine T_if1 (by decide +kernel) ?_
        refine T_let 0 ((z_up_k (by decide)).trans (by decide +kernel)) ?_
        refine T_if0 (by decide) ?_
        refine T_if1 (by decide +kernel) ?_
        refine T_up ?_
        refine T_if1 (by decide +kernel) ?_
        refine T_let 310 (by decide +kernel) ?_
        refine T_if1 (by decide +kernel) ?_
        refine T_let 0 ((z_up_k (by decide)).trans ((z_up_k (by decide)).trans (by decide +kernel))) ?_
        refine T_let 1 (by decide +kernel) ?_
        refine T_if1 (by decide +kernel) ?_
        refine T_up ?_
        refine T_of (fX12_bad_J26.eq_1 ..) ?_
        refine T_if1 (by decide +kernel) ?_
        refine T_let 1 ((z_up_k (by decide)).trans z_up_s) ?_
        refine T_if0 (by decide) ?_
        refine T_of (fX12_bad_J38.eq_1 ..) ?_
        refine T_if1 (by decide) ?_
        refine T_rI ?_
        refine T_if0 (by decide) ?_
        refine T_rI ?_
        refine T_if1 (by decide +kernel) ?_
        refine T_bI ?_
        refine T_of (fX12_thrown.eq_1 ..) ?_
        refine T_if1 (by decide +kernel) ?_
        refine T_let 1 ((z_up_k (by decide)).trans z_up_s) ?_
        refine T_rI ?_
        refine T_if1 (by decide) ?_
        refine T_if1 (by decide) ?_
        refine T_of (fL_law_J1286.eq_1 ..) ?_
        refine T_of (fL_law_J2073.eq_1 ..) ?_
        refine T_let 6 (by decide +kernel) ?_
        exact hr _
      · refine T_ite (fun h4 => ?_) (fun h4 => ?_)
        · refine T_rN ?_
          refine T_if1 (by decide +kernel) ?_
          refine T_bN ?_
          refine T_of e_refresh ?_
          refine T_rN ?_
          refine T_if1 (by decide +kernel) ?_
          refine T_let 249 (by decide +kernel) ?_
          refine T_if1 (by decide +kernel) ?_
          refine T_bN ?_
          refine T_of (fX1_go.eq_1 ..) ?_
          refine T_ite (fun h5 => ?_) (fun h5 => ?_)
          · refine T_of (fX1_go_J10.eq_1 ..) ?_
            refine T_if1 (by decide +kernel) ?_
            refine T_up0 ((z_up_k (by decide)).trans ((z_up_k (by decide)).trans (by decide +kernel))) ?_
            refine T_of (fX1_go_L17.eq_2 ..) ?_
            refine T_if1 (by decide +kernel) ?_
            refine T_let 191 (by decide +kernel) ?_
            refine T_if1 (by decide +kernel) ?_
            refine T_let 0 ((z_up_k (by decide)).trans ((z_up_k (by decide)).trans (by decide +kernel))) ?_
            refine T_if1 (by decide) ?_
            refine T_if1 (by decide +kernel) ?_
            refine T_let 256 (by decide +kernel) ?_
            refine T_if1 (by decide +kernel) ?_
            refine T_let 0 ((z_up_k (by decide)).trans ((z_up_k (by decide)).trans (by decide +kernel))) ?_
            refine T_if1 (by decide +kernel) ?_
            refine T_let 191 (by decide +kernel) ?_
            refine T_if1 (by decide +kernel) ?_
            refine T_let 0 ((z_up_k (by decide)).trans ((z_up_k (by decide)).trans (by decide +kernel))) ?_
            refine T_if1 (by decide +kernel) ?_
            refine T_bN ?_
            refine T_of (fX7_put.eq_1 ..) ?_
            refine T_if0 (by decide) ?_
            refine T_if1 (by decide +kernel) ?_
            refine T_let 257 (by decide +kernel) ?_
            refine T_if1 (by decide +kernel) ?_
            refine T_let 201 (by decide +kernel) ?_
            refine T_if0 (by decide) ?_
            refine T_if1 (by decide +kernel) ?_
            refine T_let 257 (by decide +kernel) ?_
            refine T_if1 (by decide +kernel) ?_
            refine T_up0 ((z_up_k (by decide)).trans ((z_up_k (by decide)).trans (by decide +kernel))) ?_
            refine T_of (fX7_put_J20.eq_1 ..) ?_
            refine T_rN ?_
            refine T_rN ?_
            refine T_if1 (by decide +kernel) ?_
            refine T_let 249 (by decide +kernel) ?_
            refine T_if1 (by decide +kernel) ?_
            refine T_let 0 ((z_up_k (by decide)).trans ((z_up_k (by decide)).trans (by decide +kernel))) ?_
            refine T_rcI ?_
            refine T_if1 (by decide +kernel) ?_
            refine T_up0 ((z_up_k (by decide)).trans ((z_up_k (by decide)).trans (by decide +kernel))) ?_
            refine T_rI ?_
            refine T_let 1 (by decide +kernel) ?_
            refine T_if1 (by decide) ?_
            refine T_let p1 q1 ?_
            refine T_let 2 (by decide +kernel) ?_
            refine T_if1 (by decide) ?_
            refine T_let p2 q2 ?_
            refine T_if1 (by decide +kernel) ?_
            refine T_bI ?_
            refine T_of (fX12_lines.eq_1 ..) ?_
            refine T_if1 (by decide +kernel) ?_
            refine T_up0 ((z_up_k (by decide)).trans ((z_up_k (by decide)).trans (by decide +kernel))) ?_
            refine T_bI ?_
            refine T_of (fX12_in.eq_1 ..) ?_
            refine T_if0 (by omega) ?_
            refine T_if0 (by omega) ?_
            refine T_of (fX12_in_J15.eq_1 ..) ?_
            refine T_if1 (by decide) ?_
            refine T_rI ?_
            refine T_if0 (by decide) ?_
            refine T_bI ?_
            refine T_of (fX12_in.eq_1 ..) ?_
            refine T_if0 (by omega) ?_
            refine T_if0 (by omega) ?_
            refine T_of (fX12_in_J15.eq_1 ..) ?_
            refine T_if1 (by decide) ?_
            refine T_rI ?_
            refine T_if1 (by decide) ?_
            refine T_of (fX12_lines_J32.eq_1 ..) ?_
            refine T_if1 (by decide +kernel) ?_
            refine T_bI ?_
            refine T_of (fX12_bad.eq_1 ..) ?_
            refine T_if1 (by decide) ?_
            refine T_of (fX12_bad_J26.eq_1 ..) ?_
            refine T_if1 (by decide +kernel) ?_
            refine T_let 0 ((z_up_k (by decide)).trans ((z_up_k (by decide)).trans (by decide +kernel))) ?_
            refine T_if1 (by decide) ?_
            refine T_of (fX12_bad_J38.eq_1 ..) ?_
            refine T_if1 (by decide) ?_
            refine T_rI ?_
            refine T_if1 (by decide) ?_
            refine T_if1 (by decide +kernel) ?_
            refine T_bI ?_
            refine T_of (fX12_breaks.eq_1 ..) ?_
            refine T_if1 (by omega) ?_
            refine T_of (fX12_breaks_L15.eq_2 ..) ?_
            refine T_if1 (by decide +kernel) ?_
            refine T_let 0 ((z_up_k (by decide)).trans ((z_up_k (by decide)).trans (by decide +kernel))) ?_
            refine T_if1 (by decide) ?_
            refine T_if1 (by decide +kernel) ?_
            refine T_let 3438 (by decide +kernel) ?_
            refine T_if1 (by decide +kernel) ?_
            refine T_let 0 ((z_up_k (by decide)).trans ((z_up_k (by decide)).trans (by decide +kernel))) ?_
            refine T_if1 (by decide +kernel) ?_
            refine T_up0 ((z_up_k (by decide)).trans ((z_up_k (by decide)).trans (by decide +kernel))) ?_
            refine T_rI ?_
            refine T_if1 (by decide +kernel) ?_
            refine T_up0 ((z_up_k (by decide)).trans ((z_up_k (by decide)).trans (by decide +kernel))) ?_
            refine T_rI ?_
            refine T_if1 (by decide +kernel) ?_
            refine T_bI ?_
            refine T_of (fX12_thrown.eq_1 ..) ?_
            refine T_if1 (by decide +kernel) ?_
            refine T_let 0 ((z_up_k (by decide)).trans ((z_up_k (by decide)).trans (by decide +kernel))) ?_
            refine T_rI ?_
            refine T_if1 (by decide) ?_
            refine T_if0 (by decide) ?_
            refine T_if1 (by decide +kernel) ?_
            refine T_let 0 ((z_up_k (by decide)).trans ((z_up_k (by decide)).trans (by decide +kernel))) ?_
            refine T_let 0 (by decide +kernel) ?_
            refine T_if1 (by decide) ?_
            refine T_of (fL_law_J1286.eq_1 ..) ?_
            refine T_of (fL_law_J2073.eq_1 ..) ?_
            refine T_let 6 (by decide +kernel) ?_
            exact hr _
          · have h5 := Decidable.not_not.mp h5
            subst h5
            refine T_if1 (by decide +kernel) ?_
            refine T_bN ?_
            refine T_of (fX1_chooseBest.eq_1 ..) ?_
            refine T_if1 (by decide +kernel) ?_
            refine T_let 252 (by decide +kernel) ?_
            refine T_if1 (by decide +kernel) ?_
            refine T_let 191 (by decide +kernel) ?_
            refine T_if1 (by decide +kernel) ?_
            refine T_let 0 ((z_up_k (by decide)).trans ((z_up_k (by decide)).trans (by decide +kernel))) ?_
            refine T_if1 (by decide +kernel) ?_
            refine T_bN ?_
            refine T_of (fX4_put.eq_1 ..) ?_
            refine T_if0 (by decide) ?_
            refine T_if1 (by decide +kernel) ?_
            refine T_let 253 (by decide +kernel) ?_
            refine T_if1 (by decide +kernel) ?_
            refine T_let 201 (by decide +kernel) ?_
            refine T_if0 (by decide) ?_
            refine T_if1 (by decide +kernel) ?_
            refine T_let 253 (by decide +kernel) ?_
            refine T_if1 (by decide +kernel) ?_
            refine T_up0 ((z_up_k (by decide)).trans ((z_up_k (by decide)).trans (by decide +kernel))) ?_
            refine T_of (fX4_put_J20.eq_1 ..) ?_
            refine T_rN ?_
            refine T_if1 (by decide +kernel) ?_
            refine T_let 191 (by decide +kernel) ?_
            refine T_if1 (by decide +kernel) ?_
            refine T_let 0 ((z_up_k (by decide)).trans ((z_up_k (by decide)).trans (by decide +kernel))) ?_
            refine T_let (-1) (by decide +kernel) ?_
            refine T_of (fX1_chooseBest_L25.eq_2 ..) ?_
            refine T_if1 (by decide) ?_
            refine T_rN ?_
            refine T_of (fX1_go_J10.eq_1 ..) ?_
            refine T_if1 (by decide +kernel) ?_
            refine T_up0 ((z_up_k (by decide)).trans ((z_up_k (by decide)).trans (by decide +kernel))) ?_
            refine T_of (fX1_go_L17.eq_2 ..) ?_
            refine T_if1 (by decide +kernel) ?_
            refine T_let 191 (by decide +kernel) ?_
            refine T_if1 (by decide +kernel) ?_
            refine T_let 0 ((z_up_k (by decide)).trans ((z_up_k (by decide)).trans (by decide +kernel))) ?_
            refine T_if1 (by decide) ?_
            refine T_if1 (by decide +kernel) ?_
            refine T_let 256 (by decide +kernel) ?_
            refine T_if1 (by decide +kernel) ?_
            refine T_let 0 ((z_up_k (by decide)).trans ((z_up_k (by decide)).trans (by decide +kernel))) ?_
            refine T_if1 (by decide +kernel) ?_
            refine T_let 191 (by decide +kernel) ?_
            refine T_if1 (by decide +kernel) ?_
            refine T_let 0 ((z_up_k (by decide)).trans ((z_up_k (by decide)).trans (by decide +kernel))) ?_
            refine T_if1 (by decide +kernel) ?_
            refine T_bN ?_
            refine T_of (fX7_put.eq_1 ..) ?_
            refine T_if0 (by decide) ?_
            refine T_if1 (by decide +kernel) ?_
            refine T_let 257 (by decide +kernel) ?_
            refine T_if1 (by decide +kernel) ?_
            refine T_let 201 (by decide +kernel) ?_
            refine T_if0 (by decide) ?_
            refine T_if1 (by decide +kernel) ?_
            refine T_let 257 (by decide +kernel) ?_
            refine T_if1 (by decide +kernel) ?_
            refine T_up0 ((z_up_k (by decide)).trans ((z_up_k (by decide)).trans (by decide +kernel))) ?_
            refine T_of (fX7_put_J20.eq_1 ..) ?_
            refine T_rN ?_
            refine T_rN ?_
            refine T_if1 (by decide +kernel) ?_
            refine T_let 249 (by decide +kernel) ?_
            refine T_if1 (by decide +kernel) ?_
            refine T_let 0 ((z_up_k (by decide)).trans ((z_up_k (by decide)).trans (by decide +kernel))) ?_
            refine T_rcI ?_
            refine T_if1 (by decide +kernel) ?_
            refine T_up0 ((z_up_k (by decide)).trans ((z_up_k (by decide)).trans (by decide +kernel))) ?_
            refine T_rI ?_
            refine T_let 1 (by decide +kernel) ?_
            refine T_if1 (by decide) ?_
            refine T_let p1 q1 ?_
            refine T_let 2 (by decide +kernel) ?_
            refine T_if1 (by decide) ?_
            refine T_let 1 q2 ?_
            refine T_if1 (by decide +kernel) ?_
            refine T_bI ?_
            refine T_of (fX12_lines.eq_1 ..) ?_
            refine T_if1 (by decide +kernel) ?_
            refine T_up0 ((z_up_k (by decide)).trans ((z_up_k (by decide)).trans (by decide +kernel))) ?_
            refine T_bI ?_
            refine T_of (fX12_in.eq_1 ..) ?_
            refine T_if0 (by omega) ?_
            refine T_if0 (by omega) ?_
            refine T_of (fX12_in_J15.eq_1 ..) ?_
            refine T_if1 (by decide) ?_
            refine T_rI ?_
            refine T_if0 (by decide) ?_
            refine T_bI ?_
            refine T_of (fX12_in.eq_1 ..) ?_
            refine T_if0 (by decide) ?_
            refine T_if0 (by decide) ?_
            refine T_of (fX12_in_J15.eq_1 ..) ?_
            refine T_if1 (by decide) ?_
            refine T_rI ?_
            refine T_if1 (by decide) ?_
            refine T_of (fX12_lines_J32.eq_1 ..) ?_
            refine T_if1 (by decide +kernel) ?_
            refine T_bI ?_
            refine T_of (fX12_bad.eq_1 ..) ?_
            refine T_if1 (by decide) ?_
            refine T_of (fX12_bad_J26.eq_1 ..) ?_
            refine T_if1 (by decide +kernel) ?_
            refine T_let 0 ((z_up_k (by decide)).trans ((z_up_k (by decide)).trans (by decide +kernel))) ?_
            refine T_if1 (by decide) ?_
            refine T_of (fX12_bad_J38.eq_1 ..) ?_
            refine T_if1 (by decide) ?_
            refine T_rI ?_
            refine T_if1 (by decide) ?_
            refine T_if1 (by decide +kernel) ?_
            refine T_bI ?_
            refine T_of (fX12_breaks.eq_1 ..) ?_
            refine T_if0 (by decide) ?_
            refine T_if1 (by decide +kernel) ?_
            refine T_bN ?_
            refine T_of (fX12_laysBest.eq_1 ..) ?_
            refine T_if1 (by decide +kernel) ?_
            refine T_let 3439 (by decide +kernel) ?_
            refine T_if1 (by decide +kernel) ?_
            refine T_let 0 ((z_up_k (by decide)).trans ((z_up_k (by decide)).trans (by decide +kernel))) ?_
            refine T_if1 (by decide +kernel) ?_
            refine T_up0 ((z_up_k (by decide)).trans ((z_up_k (by decide)).trans (by decide +kernel))) ?_
            refine T_if1 (by decide +kernel) ?_
            refine T_let 0 ((z_up_k (by decide)).trans ((z_up_k (by decide)).trans (by decide +kernel))) ?_
            refine T_let (-1) (by decide +kernel) ?_
            refine T_of (fX12_laysBest_L17.eq_2 ..) ?_
            refine T_if1 (by decide) ?_
            refine T_rN ?_
            refine T_of (fX12_breaks_L15.eq_2 ..) ?_
            refine T_if1 (by decide +kernel) ?_
            refine T_let 0 ((z_up_k (by decide)).trans ((z_up_k (by decide)).trans (by decide +kernel))) ?_
            refine T_if1 (by decide) ?_
            refine T_if1 (by decide +kernel) ?_
            refine T_let 3438 (by decide +kernel) ?_
            refine T_if1 (by decide +kernel) ?_
            refine T_let 0 ((z_up_k (by decide)).trans ((z_up_k (by decide)).trans (by decide +kernel))) ?_
            refine T_if1 (by decide +kernel) ?_
            refine T_up0 ((z_up_k (by decide)).trans ((z_up_k (by decide)).trans (by decide +kernel))) ?_
            refine T_rI ?_
            refine T_if1 (by decide +kernel) ?_
            refine T_up0 ((z_up_k (by decide)).trans ((z_up_k (by decide)).trans (by decide +kernel))) ?_
            refine T_rI ?_
            refine T_if1 (by decide +kernel) ?_
            refine T_bI ?_
            refine T_of (fX12_thrown.eq_1 ..) ?_
            refine T_if1 (by decide +kernel) ?_
            refine T_let 0 ((z_up_k (by decide)).trans ((z_up_k (by decide)).trans (by decide +kernel))) ?_
            refine T_rI ?_
            refine T_if1 (by decide) ?_
            refine T_if0 (by decide) ?_
            refine T_if1 (by decide +kernel) ?_
            refine T_let 0 ((z_up_k (by decide)).trans ((z_up_k (by decide)).trans (by decide +kernel))) ?_
            refine T_let 0 (by decide +kernel) ?_
            refine T_if1 (by decide) ?_
            refine T_of (fL_law_J1286.eq_1 ..) ?_
            refine T_of (fL_law_J2073.eq_1 ..) ?_
            refine T_let 6 (by decide +kernel) ?_
            exact hr _
        · refine T_of (fX11_needWithin_J10.eq_1 ..) ?_
          refine T_if1 (by decide +kernel) ?_
          refine T_let 0 (by decide +kernel) ?_
          refine T_let 1 (by decide +kernel) ?_
          refine T_if1 (by decide +kernel) ?_
          refine T_up ?_
          refine T_xN ?_
          refine T_x1I ?_
          refine T_rI ?_
          refine T_let 1 (by decide +kernel) ?_
          refine T_if1 (by decide) ?_
          refine T_let p1 q1 ?_
          refine T_let 2 (by decide +kernel) ?_
          refine T_if1 (by decide) ?_
          refine T_let p2 q2 ?_
          refine T_if1 (by decide +kernel) ?_
          refine T_bI ?_
          refine T_of (fX12_lines.eq_1 ..) ?_
          refine T_if1 (by decide +kernel) ?_
          refine T_up0 ((z_up_k (by decide)).trans (by decide +kernel)) ?_
          refine T_bI ?_
          refine T_of (fX12_in.eq_1 ..) ?_
          refine T_if0 (by omega) ?_
          refine T_if0 (by omega) ?_
          refine T_of (fX12_in_J15.eq_1 ..) ?_
          refine T_if1 (by decide) ?_
          refine T_rI ?_
          refine T_if0 (by decide) ?_
          refine T_bI ?_
          refine T_of (fX12_in.eq_1 ..) ?_
          refine T_if0 (by omega) ?_
          refine T_if1 (by omega) ?_
          refine T_of (fX12_in_J14.eq_1 ..) ?_
          refine T_of (fX12_in_J15.eq_1 ..) ?_
          refine T_if1 (by decide) ?_
          refine T_rI ?_
          refine T_if0 (by decide) ?_
          refine T_of (fX12_lines_J27.eq_1 ..) ?_
          refine T_of (fX12_lines_J32.eq_1 ..) ?_
          refine T_if1 (by decide +kernel) ?_
          refine T_bI ?_
          refine T_of (fX12_bad.eq_1 ..) ?_
          refine T_if0 (by decide) ?_
          refine T_if1 (by decide +kernel) ?_
          refine T_let 0 ((z_up_k (by decide)).trans (by decide +kernel)) ?_
          refine T_if0 (by decide) ?_
          refine T_if1 (by decide +kernel) ?_
          refine T_up ?_
          refine T_if1 (by decide +kernel) ?_
          refine T_let 310 (by decide +kernel) ?_
          refine T_if1 (by decide +kernel) ?_
          refine T_let 0 ((z_up_k (by decide)).trans ((z_up_k (by decide)).trans (by decide +kernel))) ?_
          refine T_let 1 (by decide +kernel) ?_
          refine T_if1 (by decide +kernel) ?_
          refine T_up ?_
          refine T_of (fX12_bad_J26.eq_1 ..) ?_
          refine T_if1 (by decide +kernel) ?_
          refine T_let 1 ((z_up_k (by decide)).trans z_up_s) ?_
          refine T_if0 (by decide) ?_
          refine T_of (fX12_bad_J38.eq_1 ..) ?_
          refine T_if1 (by decide) ?_
          refine T_rI ?_
          refine T_if0 (by decide) ?_
          refine T_rI ?_
          refine T_if1 (by decide +kernel) ?_
          refine T_bI ?_
          refine T_of (fX12_thrown.eq_1 ..) ?_
          refine T_if1 (by decide +kernel) ?_
          refine T_let 1 ((z_up_k (by decide)).trans z_up_s) ?_
          refine T_rI ?_
          refine T_if1 (by decide) ?_
          refine T_if1 (by decide) ?_
          refine T_of (fL_law_J1286.eq_1 ..) ?_
          refine T_of (fL_law_J2073.eq_1 ..) ?_
          refine T_let 6 (by decide +kernel) ?_
          exact hr _
    · refine T_of (fX11_needWithin_J10.eq_1 ..) ?_
      refine T_if1 (by decide +kernel) ?_
      refine T_let 0 (by decide +kernel) ?_
      refine T_let 1 (by decide +kernel) ?_
      refine T_if1 (by decide +kernel) ?_
      refine T_up ?_
      refine T_xN ?_
      refine T_x1I ?_
      refine T_rI ?_
      refine T_let 1 (by decide +kernel) ?_
      refine T_if1 (by decide) ?_
      refine T_let p1 q1 ?_
      refine T_let 2 (by decide +kernel) ?_
      refine T_if1 (by decide) ?_
      refine T_let p2 q2 ?_
      refine T_if1 (by decide +kernel) ?_
      refine T_bI ?_
      refine T_of (fX12_lines.eq_1 ..) ?_
      refine T_if1 (by decide +kernel) ?_
      refine T_up0 ((z_up_k (by decide)).trans (by decide +kernel)) ?_
      refine T_bI ?_
      refine T_of (fX12_in.eq_1 ..) ?_
      refine T_if0 (by omega) ?_
      refine T_if1 (by omega) ?_
      refine T_of (fX12_in_J14.eq_1 ..) ?_
      refine T_of (fX12_in_J15.eq_1 ..) ?_
      refine T_if1 (by decide) ?_
      refine T_rI ?_
      refine T_if1 (by decide) ?_
      refine T_of (fX12_lines_J27.eq_1 ..) ?_
      refine T_of (fX12_lines_J32.eq_1 ..) ?_
      refine T_if1 (by decide +kernel) ?_
      refine T_bI ?_
      refine T_of (fX12_bad.eq_1 ..) ?_
      refine T_if0 (by decide) ?_
      refine T_if1 (by decide +kernel) ?_
      refine T_let 0 ((z_up_k (by decide)).trans (by decide +kernel)) ?_
      refine T_if0 (by decide) ?_
      refine T_if1 (by decide +kernel) ?_
      refine T_up ?_
      refine T_if1 (by decide +kernel) ?_
      refine T_let 310 (by decide +kernel) ?_
      refine T_if1 (by decide +kernel) ?_
      refine T_let 0 ((z_up_k (by decide)).trans ((z_up_k (by decide)).trans (by decide +kernel))) ?_
      refine T_let 1 (by decide +kernel) ?_
      refine T_if1 (by decide +kernel) ?_
      refine T_up ?_
      refine T_of (fX12_bad_J26.eq_1 ..) ?_
      refine T_if1 (by decide +kernel) ?_
      refine T_let 1 ((z_up_k (by decide)).trans z_up_s) ?_
      refine T_if0 (by decide) ?_
      refine T_of (fX12_bad_J38.eq_1 ..) ?_
      refine T_if1 (by decide) ?_
      refine T_rI ?_
      refine T_if0 (by decide) ?_
      refine T_rI ?_
      refine T_if1 (by decide +kernel) ?_
      refine T_bI ?_
      refine T_of (fX12_thrown.eq_1 ..) ?_
      refine T_if1 (by decide +kernel) ?_
      refine T_let 1 ((z_up_k (by decide)).trans z_up_s) ?_
      refine T_rI ?_
      refine T_if1 (by decide) ?_
      refine T_if1 (by decide) ?_
      refine T_of (fL_law_J1286.eq_1 ..) ?_
      refine T_of (fL_law_J2073.eq_1 ..) ?_
      refine T_let 6 (by decide +kernel) ?_
      exact hr _
theorem c_1289 {xs : Nat → Int32} {r : z_M → Int → z_O} {k : z_M → z_O} {P : z_V → z_M → Prop} {p1 p2 p3 p4 p5 : Int} (q1 : Int32.toInt (xs 1) = p1) (q2 : Int32.toInt (xs 2) = p2) (q3 : Int32.toInt (xs 3) = p3) (q4 : Int32.toInt (xs 4) = p4) (q5 : Int32.toInt (xs 5) = p5) (hr : ∀ s, z_T (r s 6) P) : z_T (fL_law_J1289 1000 6 xs z_s0 1 309 7658 0 r k) P := by
  refine T_of (fL_law_J1289.eq_1 ..) ?_
  refine T_let 1 (by decide +kernel) ?_
  refine T_if1 (by decide) ?_
  refine T_let p1 q1 ?_
  refine T_bI ?_
  refine T_of (fL_least.eq_1 ..) ?_
  refine T_if1 (by decide +kernel) ?_
  refine T_cI ?_
  refine T_of (fX11_least.eq_1 ..) ?_
  refine T_if1 (by decide +kernel) ?_
  refine T_bN ?_
  refine T_of (fX11_needWithin.eq_1 ..) ?_
  refine T_ite (fun h1 => ?_) (fun h1 => ?_)
  · refine T_of (fX11_needWithin_J10.eq_1 ..) ?_
    refine T_if1 (by decide +kernel) ?_
    refine T_let 0 (by decide +kernel) ?_
    refine T_let 1 (by decide +kernel) ?_
    refine T_if1 (by decide +kernel) ?_
    refine T_up ?_
    refine T_xN ?_
    refine T_x1I ?_
    refine T_rI ?_
    refine T_let 1 (by decide +kernel) ?_
    refine T_if1 (by decide) ?_
    refine T_let p1 q1 ?_
    refine T_if1 (by decide +kernel) ?_
    refine T_bI ?_
    refine T_of (fX12_least.eq_1 ..) ?_
    refine T_if1 (by decide +kernel) ?_
    refine T_up0 ((z_up_k (by decide)).trans (by decide +kernel)) ?_
    refine T_bI ?_
    refine T_of (fX12_in.eq_1 ..) ?_
    refine T_if1 (by omega) ?_
    refine T_of (fX12_in_J14.eq_1 ..) ?_
    refine T_of (fX12_in_J15.eq_1 ..) ?_
    refine T_if1 (by decide) ?_
    refine T_rI ?_
    refine T_if0 (by decide) ?_
    refine T_of (fX12_least_J22.eq_1 ..) ?_
    refine T_if1 (by decide +kernel) ?_
    refine T_bI ?_
    refine T_of (fX12_bad.eq_1 ..) ?_
    refine T_if0 (by decide) ?_
    refine T_if1 (by decide +kernel) ?_
    refine T_let 0 ((z_up_k (by decide)).trans (by decide +kernel)) ?_
    refine T_if0 (by decide) ?_
    refine T_if1 (by decide +kernel) ?_
    refine T_up ?_
    refine T_if1 (by decide +kernel) ?_
    refine T_let 310 (by decide +kernel) ?_
    refine T_if1 (by decide +kernel) ?_
    refine T_let 0 ((z_up_k (by decide)).trans ((z_up_k (by decide)).trans (by decide +kernel))) ?_
    refine T_let 1 (by decide +kernel) ?_
    refine T_if1 (by decide +kernel) ?_
    refine T_up ?_
    refine T_of (fX12_bad_J26.eq_1 ..) ?_
    refine T_if1 (by decide +kernel) ?_
    refine T_let 1 ((z_up_k (by decide)).trans z_up_s) ?_
    refine T_if0 (by decide) ?_
    refine T_of (fX12_bad_J38.eq_1 ..) ?_
    refine T_if1 (by decide) ?_
    refine T_rI ?_
    refine T_if0 (by decide) ?_
    refine T_rI ?_
    refine T_if1 (by decide +kernel) ?_
    refine T_bI ?_
    refine T_of (fX12_thrown.eq_1 ..) ?_
    refine T_if1 (by decide +kernel) ?_
    refine T_let 1 ((z_up_k (by decide)).trans z_up_s) ?_
    refine T_rI ?_
    refine T_if1 (by decide) ?_
    refine T_if1 (by decide) ?_
    refine T_of (fL_law_J1342.eq_1 ..) ?_
    refine T_of (fL_law_J2073.eq_1 ..) ?_
    refine T_let 6 (by decide +kernel) ?_
    exact hr _
  · refine T_ite (fun h2 => ?_) (fun h2 => ?_)
    · refine T_rN ?_
      refine T_if1 (by decide +kernel) ?_
      refine T_bN ?_
      refine T_of e_refresh ?_
      refine T_rN ?_
      refine T_if1 (by decide +kernel) ?_
      refine T_let 2 (by decide +kernel) ?_
      refine T_if1 (by decide +kernel) ?_
      refine T_bI ?_
      refine T_of (fX7_get.eq_1 ..) ?_
      refine T_if0 (by decide) ?_
      refine T_if1 (by decide +kernel) ?_
      refine T_let 3 (by decide +kernel) ?_
      refine T_if1 (by decide +kernel) ?_
      refine T_let 9 (by decide +kernel) ?_
      refine T_if0 (by decide) ?_
      refine T_if1 (by decide +kernel) ?_
      refine T_let 3 (by decide +kernel) ?_
      refine T_if1 (by decide +kernel) ?_
      refine T_let 0 ((z_up_k (by decide)).trans ((z_up_k (by decide)).trans (by decide +kernel))) ?_
      refine T_of (fX7_get_J23.eq_1 ..) ?_
      refine T_rI ?_
      refine T_bI ?_
      refine T_of (fX11_pick.eq_1 ..) ?_
      refine T_if0 (by decide) ?_
      refine T_if1 (by decide +kernel) ?_
      refine T_if0 (by decide) ?_
      refine T_if1 (by decide +kernel) ?_
      refine T_let 999 (by decide +kernel) ?_
      refine T_of (fX11_pick_J17.eq_1 ..) ?_
      refine T_rI ?_
      refine T_if1 (by decide +kernel) ?_
      refine T_bI ?_
      refine T_of (fX11_shortestFor.eq_1 ..) ?_
      refine T_bI ?_
      refine T_of (fX11_pick.eq_1 ..) ?_
      refine T_if0 (by decide) ?_
      refine T_if1 (by decide +kernel) ?_
      refine T_if0 (by decide) ?_
      refine T_if1 (by decide +kernel) ?_
      refine T_let 12 (by decide +kernel) ?_
      refine T_of (fX11_pick_J17.eq_1 ..) ?_
      refine T_rI ?_
      refine T_bI ?_
      refine T_of (fX11_pick.eq_1 ..) ?_
      refine T_if0 (by decide) ?_
      refine T_if1 (by decide +kernel) ?_
      refine T_if0 (by decide) ?_
      refine T_if1 (by decide +kernel) ?_
      refine T_let 999 (by decide +kernel) ?_
      refine T_of (fX11_pick_J17.eq_1 ..) ?_
      refine T_rI ?_
      refine T_let 1000 (by decide +kernel) ?_
      refine T_of (fX11_shortestFor_L19.eq_2 ..) ?_
      refine T_if0 (by decide) ?_
      refine T_let 1012 (by decide +kernel) ?_
      refine T_if1 (by decide) ?_
      refine T_let 506 (by decide +kernel) ?_
      refine T_if1 (by decide +kernel) ?_
      refine T_let 249 (by decide +kernel) ?_
      refine T_if1 (by decide +kernel) ?_
      refine T_bI ?_
      refine T_of (fX1_fewest.eq_1 ..) ?_
      refine T_if1 (by decide +kernel) ?_
      refine T_let 254 (by decide +kernel) ?_
      refine T_if1 (by decide +kernel) ?_
      refine T_let 191 (by decide +kernel) ?_
      refine T_if1 (by decide +kernel) ?_
      refine T_let 0 ((z_up_k (by decide)).trans ((z_up_k (by decide)).trans (by decide +kernel))) ?_
      refine T_if1 (by decide +kernel) ?_
      refine T_bN ?_
      refine T_of (fX7_put.eq_1 ..) ?_
      refine T_if0 (by decide) ?_
      refine T_if1 (by decide +kernel) ?_
      refine T_let 255 (by decide +kernel) ?_
      refine T_if1 (by decide +kernel) ?_
      refine T_let 201 (by decide +kernel) ?_
      refine T_if0 (by decide) ?_
      refine T_if1 (by decide +kernel) ?_
      refine T_let 255 (by decide +kernel) ?_
      refine T_if1 (by decide +kernel) ?_
      refine T_up0 ((z_up_k (by decide)).trans ((z_up_k (by decide)).trans (by decide +kernel))) ?_
      refine T_of (fX7_put_J20.eq_1 ..) ?_
      refine T_rN ?_
      refine T_if1 (by decide +kernel) ?_
      refine T_let 191 (by decide +kernel) ?_
      refine T_if1 (by decide +kernel) ?_
      refine T_let 0 ((z_up_k (by decide)).trans ((z_up_k (by decide)).trans (by decide +kernel))) ?_
      refine T_let (-1) (by decide +kernel) ?_
      refine T_of (fX1_fewest_L25.eq_2 ..) ?_
      refine T_if1 (by decide) ?_
      refine T_if1 (by decide +kernel) ?_
      refine T_let 254 (by decide +kernel) ?_
      refine T_if1 (by decide +kernel) ?_
      refine T_bI ?_
      refine T_of (fX7_get.eq_1 ..) ?_
      refine T_if0 (by decide) ?_
      refine T_if1 (by decide +kernel) ?_
      refine T_let 255 (by decide +kernel) ?_
      refine T_if1 (by decide +kernel) ?_
      refine T_let 201 (by decide +kernel) ?_
      refine T_if0 (by decide) ?_
      refine T_if1 (by decide +kernel) ?_
      refine T_let 255 (by decide +kernel) ?_
      refine T_if1 (by decide +kernel) ?_
      refine T_let 0 ((z_up_k (by decide)).trans ((z_up_k (by decide)).trans (by decide +kernel))) ?_
      refine T_of (fX7_get_J23.eq_1 ..) ?_
      refine T_rI ?_
      refine T_rI ?_
      refine T_if0 (by omega) ?_
      refine T_of (fX11_shortestFor_J59.eq_1 ..) ?_
      refine T_of (fX11_shortestFor_L19.eq_2 ..) ?_
      refine T_if0 (by decide) ?_
      refine T_let 518 (by decide +kernel) ?_
      refine T_if1 (by decide) ?_
      refine T_let 259 (by decide +kernel) ?_
      refine T_if1 (by decide +kernel) ?_
      refine T_let 249 (by decide +kernel) ?_
      refine T_if1 (by decide +kernel) ?_
      refine T_bI ?_
      refine T_of (fX1_fewest.eq_1 ..) ?_
      refine T_if1 (by decide +kernel) ?_
      refine T_let 254 (by decide +kernel) ?_
      refine T_if1 (by decide +kernel) ?_
      refine T_let 191 (by decide +kernel) ?_
      refine T_if1 (by decide +kernel) ?_
      refine T_let 0 ((z_up_k (by decide)).trans ((z_up_k (by decide)).trans (by decide +kernel))) ?_
      refine T_if1 (by decide +kernel) ?_
      refine T_bN ?_
      refine T_of (fX7_put.eq_1 ..) ?_
      refine T_if0 (by decide) ?_
      refine T_if1 (by decide +kernel) ?_
      refine T_let 255 (by decide +kernel) ?_
      refine T_if1 (by decide +kernel) ?_
      refine T_let 201 (by decide +kernel) ?_
      refine T_if0 (by decide) ?_
      refine T_if1 (by decide +kernel) ?_
      refine T_let 255 (by decide +kernel) ?_
      refine T_if1 (by decide +kernel) ?_
      refine T_up0 ((z_up_k (by decide)).trans ((z_up_k (by decide)).trans (by decide +kernel))) ?_
      refine T_of (fX7_put_J20.eq_1 ..) ?_
      refine T_rN ?_
      refine T_if1 (by decide +kernel) ?_
      refine T_let 191 (by decide +kernel) ?_
      refine T_if1 (by decide +kernel) ?_
      refine T_let 0 ((z_up_k (by decide)).trans ((z_up_k (by decide)).trans (by decide +kernel))) ?_
      refine T_let (-1) (by decide +kernel) ?_
      refine T_of (fX1_fewest_L25.eq_2 ..) ?_
      refine T_if1 (by decide) ?_
      refine T_if1 (by decide +kernel) ?_
      refine T_let 254 (by decide +kernel) ?_
      refine T_if1 (by decide +kernel) ?_
      refine T_bI ?_
      refine T_of (fX7_get.eq_1 ..) ?_
      refine T_if0 (by decide) ?_
      refine T_if1 (by decide +kernel) ?_
      refine T_let 255 (by decide +kernel) ?_
      refine T_if1 (by decide +kernel) ?_
      refine T_let 201 (by decide +kernel) ?_
      refine T_if0 (by decide) ?_
      refine T_if1 (by decide +kernel) ?_
      refine T_let 255 (by decide +kernel) ?_
      refine T_if1 (by decide +kernel) ?_
      refine T_let 0 ((z_up_k (by decide)).trans ((z_up_k (by decide)).trans (by decide +kernel))) ?_
      refine T_of (fX7_get_J23.eq_1 ..) ?_
      refine T_rI ?_
      refine T_rI ?_
      refine T_if0 (by omega) ?_
      refine T_of (fX11_shortestFor_J59.eq_1 ..) ?_
      refine T_of (fX11_shortestFor_L19.eq_2 ..) ?_
      refine T_if0 (by decide) ?_
      refine T_let 271 (by decide +kernel) ?_
      refine T_if1 (by decide) ?_
      refine T_let 135 (by decide +kernel) ?_
      refine T_if1 (by decide +kernel) ?_
      refine T_let 249 (by decide +kernel) ?_
      refine T_if1 (by decide +kernel) ?_
      refine T_bI ?_
      refine T_of (fX1_fewest.eq_1 ..) ?_
      refine T_if1 (by decide +kernel) ?_
      refine T_let 254 (by decide +kernel) ?_
      refine T_if1 (by decide +kernel) ?_
      refine T_let 191 (by decide +kernel) ?_
      refine T_if1 (by decide +kernel) ?_
      refine T_let 0 ((z_up_k (by decide)).trans ((z_up_k (by decide)).trans (by decide +kernel))) ?_
      refine T_if1 (by decide +kernel) ?_
      refine T_bN ?_
      refine T_of (fX7_put.eq_1 ..) ?_
      refine T_if0 (by decide) ?_
      refine T_if1 (by decide +kernel) ?_
      refine T_let 255 (by decide +kernel) ?_
      refine T_if1 (by decide +kernel) ?_
      refine T_let 201 (by decide +kernel) ?_
      refine T_if0 (by decide) ?_
      refine T_if1 (by decide +kernel) ?_
      refine T_let 255 (by decide +kernel) ?_
      refine T_if1 (by decide +kernel) ?_
      refine T_up0 ((z_up_k (by decide)).trans ((z_up_k (by decide)).trans (by decide +kernel))) ?_
      refine T_of (fX7_put_J20.eq_1 ..) ?_
      refine T_rN ?_
      refine T_if1 (by decide +kernel) ?_
      refine T_let 191 (by decide +kernel) ?_
      refine T_if1 (by decide +kernel) ?_
      refine T_let 0 ((z_up_k (by decide)).trans ((z_up_k (by decide)).trans (by decide +kernel))) ?_
      refine T_let (-1) (by decide +kernel) ?_
      refine T_of (fX1_fewest_L25.eq_2 ..) ?_
      refine T_if1 (by decide) ?_
      refine T_if1 (by decide +kernel) ?_
      refine T_let 254 (by decide +kernel) ?_
      refine T_if1 (by decide +kernel) ?_
      refine T_bI ?_
      refine T_of (fX7_get.eq_1 ..) ?_
      refine T_if0 (by decide) ?_
      refine T_if1 (by decide +kernel) ?_
      refine T_let 255 (by decide +kernel) ?_
      refine T_if1 (by decide +kernel) ?_
      refine T_let 201 (by decide +kernel) ?_
      refine T_if0 (by decide) ?_
      refine T_if1 (by decide +kernel) ?_
      refine T_let 255 (by decide +kernel) ?_
      refine T_if1 (by decide +kernel) ?_
      refine T_let 0 ((z_up_k (by decide)).trans ((z_up_k (by decide)).trans (by decide +kernel))) ?_
      refine T_of (fX7_get_J23.eq_1 ..) ?_
      refine T_rI ?_
      refine T_rI ?_
      refine T_if0 (by omega) ?_
      refine T_of (fX11_shortestFor_J59.eq_1 ..) ?_
      refine T_of (fX11_shortestFor_L19.eq_2 ..) ?_
      refine T_if0 (by decide) ?_
      refine T_let 147 (by decide +kernel) ?_
      refine T_if1 (by decide) ?_
      refine T_let 73 (by decide +kernel) ?_
      refine T_if1 (by decide +kernel) ?_
      refine T_let 249 (by decide +kernel) ?_
      refine T_if1 (by decide +kernel) ?_
      refine T_bI ?_
      refine T_of (fX1_fewest.eq_1 ..) ?_
      refine T_if1 (by decide +kernel) ?_
      refine T_let 254 (by decide +kernel) ?_
      refine T_if1 (by decide +kernel) ?_
      refine T_let 191 (by decide +kernel) ?_
      refine T_if1 (by decide +kernel) ?_
      refine T_let 0 ((z_up_k (by decide)).trans ((z_up_k (by decide)).trans (by decide +kernel))) ?_
      refine T_if1 (by decide +kernel) ?_
      refine T_bN ?_
      refine T_of (fX7_put.eq_1 ..) ?_
      refine T_if0 (by decide) ?_
      refine T_if1 (by decide +kernel) ?_
      refine T_let 255 (by decide +kernel) ?_
      refine T_if1 (by decide +kernel) ?_
      refine T_let 201 (by decide +kernel) ?_
      refine T_if0 (by decide) ?_
      refine T_if1 (by decide +kernel) ?_
      refine T_let 255 (by decide +kernel) ?_
      refine T_if1 (by decide +kernel) ?_
      refine T_up0 ((z_up_k (by decide)).trans ((z_up_k (by decide)).trans (by decide +kernel))) ?_
      refine T_of (fX7_put_J20.eq_1 ..) ?_
      refine T_rN ?_
      refine T_if1 (by decide +kernel) ?_
      refine T_let 191 (by decide +kernel) ?_
      refine T_if1 (by decide +kernel) ?_
      refine T_let 0 ((z_up_k (by decide)).trans ((z_up_k (by decide)).trans (by decide +kernel))) ?_
      refine T_let (-1) (by decide +kernel) ?_
      refine T_of (fX1_fewest_L25.eq_2 ..) ?_
      refine T_if1 (by decide) ?_
      refine T_if1 (by decide +kernel) ?_
      refine T_let 254 (by decide +kernel) ?_
      refine T_if1 (by decide +kernel) ?_
      refine T_bI ?_
      refine T_of (fX7_get.eq_1 ..) ?_
      refine T_if0 (by decide) ?_
      refine T_if1 (by decide +kernel) ?_
      refine T_let 255 (by decide +kernel) ?_
      refine T_if1 (by decide +kernel) ?_
      refine T_let 201 (by decide +kernel) ?_
      refine T_if0 (by decide) ?_
      refine T_if1 (by decide +kernel) ?_
      refine T_let 255 (by decide +kernel) ?_
      refine T_if1 (by decide +kernel) ?_
      refine T_let 0 ((z_up_k (by decide)).trans ((z_up_k (by decide)).trans (by decide +kernel))) ?_
      refine T_of (fX7_get_J23.eq_1 ..) ?_
      refine T_rI ?_
      refine T_rI ?_
      refine T_if0 (by omega) ?_
      refine T_of (fX11_shortestFor_J59.eq_1 ..) ?_
      refine T_of (fX11_shortestFor_L19.eq_2 ..) ?_
      refine T_if0 (by decide) ?_
      refine T_let 85 (by decide +kernel) ?_
      refine T_if1 (by decide) ?_
      refine T_let 42 (by decide +kernel) ?_
      refine T_if1 (by decide +kernel) ?_
      refine T_let 249 (by decide +kernel) ?_
      refine T_if1 (by decide +kernel) ?_
      refine T_bI ?_
      refine T_of (fX1_fewest.eq_1 ..) ?_
      refine T_if1 (by decide +kernel) ?_
      refine T_let 254 (by decide +kernel) ?_
      refine T_if1 (by decide +kernel) ?_
      refine T_let 191 (by decide +kernel) ?_
      refine T_if1 (by decide +kernel) ?_
      refine T_let 0 ((z_up_k (by decide)).trans ((z_up_k (by decide)).trans (by decide +kernel))) ?_
      refine T_if1 (by decide +kernel) ?_
      refine T_bN ?_
      refine T_of (fX7_put.eq_1 ..) ?_
      refine T_if0 (by decide) ?_
      refine T_if1 (by decide +kernel) ?_
      refine T_let 255 (by decide +kernel) ?_
      refine T_if1 (by decide +kernel) ?_
      refine T_let 201 (by decide +kernel) ?_
      refine T_if0 (by decide) ?_
      refine T_if1 (by decide +kernel) ?_
      refine T_let 255 (by decide +kernel) ?_
      refine T_if1 (by decide +kernel) ?_
      refine T_up0 ((z_up_k (by decide)).trans ((z_up_k (by decide)).trans (by decide +kernel))) ?_
      refine T_of (fX7_put_J20.eq_1 ..) ?_
      refine T_rN ?_
      refine T_if1 (by decide +kernel) ?_
      refine T_let 191 (by decide +kernel) ?_
      refine T_if1 (by decide +kernel) ?_
      refine T_let 0 ((z_up_k (by decide)).trans ((z_up_k (by decide)).trans (by decide +kernel))) ?_
      refine T_let (-1) (by decide +kernel) ?_
      refine T_of (fX1_fewest_L25.eq_2 ..) ?_
      refine T_if1 (by decide) ?_
      refine T_if1 (by decide +kernel) ?_
      refine T_let 254 (by decide +kernel) ?_
      refine T_if1 (by decide +kernel) ?_
      refine T_bI ?_
      refine T_of (fX7_get.eq_1 ..) ?_
      refine T_if0 (by decide) ?_
      refine T_if1 (by decide +kernel) ?_
      refine T_let 255 (by decide +kernel) ?_
      refine T_if1 (by decide +kernel) ?_
      refine T_let 201 (by decide +kernel) ?_
      refine T_if0 (by decide) ?_
      refine T_if1 (by decide +kernel) ?_
      refine T_let 255 (by decide +kernel) ?_
      refine T_if1 (by decide +kernel) ?_
      refine T_let 0 ((z_up_k (by decide)).trans ((z_up_k (by decide)).trans (by decide +kernel))) ?_
      refine T_of (fX7_get_J23.eq_1 ..) ?_
      refine T_rI ?_
      refine T_rI ?_
      refine T_if0 (by omega) ?_
      refine T_of (fX11_shortestFor_J59.eq_1 ..) ?_
      refine T_of (fX11_shortestFor_L19.eq_2 ..) ?_
      refine T_if0 (by decide) ?_
      refine T_let 54 (by decide +kernel) ?_
      refine T_if1 (by decide) ?_
      refine T_let 27 (by decide +kernel) ?_
      refine T_if1 (by decide +kernel) ?_
      refine T_let 249 (by decide +kernel) ?_
      refine T_if1 (by decide +kernel) ?_
      refine T_bI ?_
      refine T_of (fX1_fewest.eq_1 ..) ?_
      refine T_if1 (by decide +kernel) ?_
      refine T_let 254 (by decide +kernel) ?_
      refine T_if1 (by decide +kernel) ?_
      refine T_let 191 (by decide +kernel) ?_
      refine T_if1 (by decide +kernel) ?_
      refine T_let 0 ((z_up_k (by decide)).trans ((z_up_k (by decide)).trans (by decide +kernel))) ?_
      refine T_if1 (by decide +kernel) ?_
      refine T_bN ?_
      refine T_of (fX7_put.eq_1 ..) ?_
      refine T_if0 (by decide) ?_
      refine T_if1 (by decide +kernel) ?_
      refine T_let 255 (by decide +kernel) ?_
      refine T_if1 (by decide +kernel) ?_
      refine T_let 201 (by decide +kernel) ?_
      refine T_if0 (by decide) ?_
      refine T_if1 (by decide +kernel) ?_
      refine T_let 255 (by decide +kernel) ?_
      refine T_if1 (by decide +kernel) ?_
      refine T_up0 ((z_up_k (by decide)).trans ((z_up_k (by decide)).trans (by decide +kernel))) ?_
      refine T_of (fX7_put_J20.eq_1 ..) ?_
      refine T_rN ?_
      refine T_if1 (by decide +kernel) ?_
      refine T_let 191 (by decide +kernel) ?_
      refine T_if1 (by decide +kernel) ?_
      refine T_let 0 ((z_up_k (by decide)).trans ((z_up_k (by decide)).trans (by decide +kernel))) ?_
      refine T_let (-1) (by decide +kernel) ?_
      refine T_of (fX1_fewest_L25.eq_2 ..) ?_
      refine T_if1 (by decide) ?_
      refine T_if1 (by decide +kernel) ?_
      refine T_let 254 (by decide +kernel) ?_
      refine T_if1 (by decide +kernel) ?_
      refine T_bI ?_
      refine T_of (fX7_get.eq_1 ..) ?_
      refine T_if0 (by decide) ?_
      refine T_if1 (by decide +kernel) ?_
      refine T_let 255 (by decide +kernel) ?_
      refine T_if1 (by decide +kernel) ?_
      refine T_let 201 (by decide +kernel) ?_
      refine T_if0 (by decide) ?_
      refine T_if1 (by decide +kernel) ?_
      refine T_let 255 (by decide +kernel) ?_
      refine T_if1 (by decide +kernel) ?_
      refine T_let 0 ((z_up_k (by decide)).trans ((z_up_k (by decide)).trans (by decide +kernel))) ?_
      refine T_of (fX7_get_J23.eq_1 ..) ?_
      refine T_rI ?_
      refine T_rI ?_
      refine T_if0 (by omega) ?_
      refine T_of (fX11_shortestFor_J59.eq_1 ..) ?_
      refine T_of (fX11_shortestFor_L19.eq_2 ..) ?_
      refine T_if0 (by decide) ?_
      refine T_let 39 (by decide +kernel) ?_
      refine T_if1 (by decide) ?_
      refine T_let 19 (by decide +kernel) ?_
      refine T_if1 (by decide +kernel) ?_
      refine T_let 249 (by decide +kernel) ?_
      refine T_if1 (by decide +kernel) ?_
      refine T_bI ?_
      refine T_of (fX1_fewest.eq_1 ..) ?_
      refine T_if1 (by decide +kernel) ?_
      refine T_let 254 (by decide +kernel) ?_
      refine T_if1 (by decide +kernel) ?_
      refine T_let 191 (by decide +kernel) ?_
      refine T_if1 (by decide +kernel) ?_
      refine T_let 0 ((z_up_k (by decide)).trans ((z_up_k (by decide)).trans (by decide +kernel))) ?_
      refine T_if1 (by decide +kernel) ?_
      refine T_bN ?_
      refine T_of (fX7_put.eq_1 ..) ?_
      refine T_if0 (by decide) ?_
      refine T_if1 (by decide +kernel) ?_
      refine T_let 255 (by decide +kernel) ?_
      refine T_if1 (by decide +kernel) ?_
      refine T_let 201 (by decide +kernel) ?_
      refine T_if0 (by decide) ?_
      refine T_if1 (by decide +kernel) ?_
      refine T_let 255 (by decide +kernel) ?_
      refine T_if1 (by decide +kernel) ?_
      refine T_up0 ((z_up_k (by decide)).trans ((z_up_k (by decide)).trans (by decide +kernel))) ?_
      refine T_of (fX7_put_J20.eq_1 ..) ?_
      refine T_rN ?_
      refine T_if1 (by decide +kernel) ?_
      refine T_let 191 (by decide +kernel) ?_
      refine T_if1 (by decide +kernel) ?_
      refine T_let 0 ((z_up_k (by decide)).trans ((z_up_k (by decide)).trans (by decide +kernel))) ?_
      refine T_let (-1) (by decide +kernel) ?_
      refine T_of (fX1_fewest_L25.eq_2 ..) ?_
      refine T_if1 (by decide) ?_
      refine T_if1 (by decide +kernel) ?_
      refine T_let 254 (by decide +kernel) ?_
      refine T_if1 (by decide +kernel) ?_
      refine T_bI ?_
      refine T_of (fX7_get.eq_1 ..) ?_
      refine T_if0 (by decide) ?_
      refine T_if1 (by decide +kernel) ?_
      refine T_let 255 (by decide +kernel) ?_
      refine T_if1 (by decide +kernel) ?_
      refine T_let 201 (by decide +kernel) ?_
      refine T_if0 (by decide) ?_
      refine T_if1 (by decide +kernel) ?_
      refine T_let 255 (by decide +kernel) ?_
      refine T_if1 (by decide +kernel) ?_
      refine T_let 0 ((z_up_k (by decide)).trans ((z_up_k (by decide)).trans (by decide +kernel))) ?_
      refine T_of (fX7_get_J23.eq_1 ..) ?_
      refine T_rI ?_
      refine T_rI ?_
      refine T_if0 (by omega) ?_
      refine T_of (fX11_shortestFor_J59.eq_1 ..) ?_
      refine T_of (fX11_shortestFor_L19.eq_2 ..) ?_
      refine T_if0 (by decide) ?_
      refine T_let 31 (by decide +kernel) ?_
      refine T_if1 (by decide) ?_
      refine T_let 15 (by decide +kernel) ?_
      refine T_if1 (by decide +kernel) ?_
      refine T_let 249 (by decide +kernel) ?_
      refine T_if1 (by decide +kernel) ?_
      refine T_bI ?_
      refine T_of (fX1_fewest.eq_1 ..) ?_
      refine T_if1 (by decide +kernel) ?_
      refine T_let 254 (by decide +kernel) ?_
      refine T_if1 (by decide +kernel) ?_
      refine T_let 191 (by decide +kernel) ?_
      refine T_if1 (by decide +kernel) ?_
      refine T_let 0 ((z_up_k (by decide)).trans ((z_up_k (by decide)).trans (by decide +kernel))) ?_
      refine T_if1 (by decide +kernel) ?_
      refine T_bN ?_
      refine T_of (fX7_put.eq_1 ..) ?_
      refine T_if0 (by decide) ?_
      refine T_if1 (by decide +kernel) ?_
      refine T_let 255 (by decide +kernel) ?_
      refine T_if1 (by decide +kernel) ?_
      refine T_let 201 (by decide +kernel) ?_
      refine T_if0 (by decide) ?_
      refine T_if1 (by decide +kernel) ?_
      refine T_let 255 (by decide +kernel) ?_
      refine T_if1 (by decide +kernel) ?_
      refine T_up0 ((z_up_k (by decide)).trans ((z_up_k (by decide)).trans (by decide +kernel))) ?_
      refine T_of (fX7_put_J20.eq_1 ..) ?_
      refine T_rN ?_
      refine T_if1 (by decide +kernel) ?_
      refine T_let 191 (by decide +kernel) ?_
      refine T_if1 (by decide +kernel) ?_
      refine T_let 0 ((z_up_k (by decide)).trans ((z_up_k (by decide)).trans (by decide +kernel))) ?_
      refine T_let (-1) (by decide +kernel) ?_
      refine T_of (fX1_fewest_L25.eq_2 ..) ?_
      refine T_if1 (by decide) ?_
      refine T_if1 (by decide +kernel) ?_
      refine T_let 254 (by decide +kernel) ?_
      refine T_if1 (by decide +kernel) ?_
      refine T_bI ?_
      refine T_of (fX7_get.eq_1 ..) ?_
      refine T_if0 (by decide) ?_
      refine T_if1 (by decide +kernel) ?_
      refine T_let 255 (by decide +kernel) ?_
      refine T_if1 (by decide +kernel) ?_
      refine T_let 201 (by decide +kernel) ?_
      refine T_if0 (by decide) ?_
      refine T_if1 (by decide +kernel) ?_
      refine T_let 255 (by decide +kernel) ?_
      refine T_if1 (by decide +kernel) ?_
      refine T_let 0 ((z_up_k (by decide)).trans ((z_up_k (by decide)).trans (by decide +kernel))) ?_
      refine T_of (fX7_get_J23.eq_1 ..) ?_
      refine T_rI ?_
      refine T_rI ?_
      refine T_if0 (by omega) ?_
      refine T_of (fX11_shortestFor_J59.eq_1 ..) ?_
      refine T_of (fX11_shortestFor_L19.eq_2 ..) ?_
      refine T_if0 (by decide) ?_
      refine T_let 27 (by decide +kernel) ?_
      refine T_if1 (by decide) ?_
      refine T_let 13 (by decide +kernel) ?_
      refine T_if1 (by decide +kernel) ?_
      refine T_let 249 (by decide +kernel) ?_
      refine T_if1 (by decide +kernel) ?_
      refine T_bI ?_
      refine T_of (fX1_fewest.eq_1 ..) ?_
      refine T_if1 (by decide +kernel) ?_
      refine T_let 254 (by decide +kernel) ?_
      refine T_if1 (by decide +kernel) ?_
      refine T_let 191 (by decide +kernel) ?_
      refine T_if1 (by decide +kernel) ?_
      refine T_let 0 ((z_up_k (by decide)).trans ((z_up_k (by decide)).trans (by decide +kernel))) ?_
      refine T_if1 (by decide +kernel) ?_
      refine T_bN ?_
      refine T_of (fX7_put.eq_1 ..) ?_
      refine T_if0 (by decide) ?_
      refine T_if1 (by decide +kernel) ?_
      refine T_let 255 (by decide +kernel) ?_
      refine T_if1 (by decide +kernel) ?_
      refine T_let 201 (by decide +kernel) ?_
      refine T_if0 (by decide) ?_
      refine T_if1 (by decide +kernel) ?_
      refine T_let 255 (by decide +kernel) ?_
      refine T_if1 (by decide +kernel) ?_
      refine T_up0 ((z_up_k (by decide)).trans ((z_up_k (by decide)).trans (by decide +kernel))) ?_
      refine T_of (fX7_put_J20.eq_1 ..) ?_
      refine T_rN ?_
      refine T_if1 (by decide +kernel) ?_
      refine T_let 191 (by decide +kernel) ?_
      refine T_if1 (by decide +kernel) ?_
      refine T_let 0 ((z_up_k (by decide)).trans ((z_up_k (by decide)).trans (by decide +kernel))) ?_
      refine T_let (-1) (by decide +kernel) ?_
      refine T_of (fX1_fewest_L25.eq_2 ..) ?_
      refine T_if1 (by decide) ?_
      refine T_if1 (by decide +kernel) ?_
      refine T_let 254 (by decide +kernel) ?_
      refine T_if1 (by decide +kernel) ?_
      refine T_bI ?_
      refine T_of (fX7_get.eq_1 ..) ?_
      refine T_if0 (by decide) ?_
      refine T_if1 (by decide +kernel) ?_
      refine T_let 255 (by decide +kernel) ?_
      refine T_if1 (by decide +kernel) ?_
      refine T_let 201 (by decide +kernel) ?_
      refine T_if0 (by decide) ?_
      refine T_if1 (by decide +kernel) ?_
      refine T_let 255 (by decide +kernel) ?_
      refine T_if1 (by decide +kernel) ?_
      refine T_let 0 ((z_up_k (by decide)).trans ((z_up_k (by decide)).trans (by decide +kernel))) ?_
      refine T_of (fX7_get_J23.eq_1 ..) ?_
      refine T_rI ?_
      refine T_rI ?_
      refine T_if0 (by omega) ?_
      refine T_of (fX11_shortestFor_J59.eq_1 ..) ?_
      refine T_of (fX11_shortestFor_L19.eq_2 ..) ?_
      refine T_if0 (by decide) ?_
      refine T_let 25 (by decide +kernel) ?_
      refine T_if1 (by decide) ?_
      refine T_let 12 (by decide +kernel) ?_
      refine T_if1 (by decide +kernel) ?_
      refine T_let 249 (by decide +kernel) ?_
      refine T_if1 (by decide +kernel) ?_
      refine T_bI ?_
      refine T_of (fX1_fewest.eq_1 ..) ?_
      refine T_if1 (by decide +kernel) ?_
      refine T_let 254 (by decide +kernel) ?_
      refine T_if1 (by decide +kernel) ?_
      refine T_let 191 (by decide +kernel) ?_
      refine T_if1 (by decide +kernel) ?_
      refine T_let 0 ((z_up_k (by decide)).trans ((z_up_k (by decide)).trans (by decide +kernel))) ?_
      refine T_if1 (by decide +kernel) ?_
      refine T_bN ?_
      refine T_of (fX7_put.eq_1 ..) ?_
      refine T_if0 (by decide) ?_
      refine T_if1 (by decide +kernel) ?_
      refine T_let 255 (by decide +kernel) ?_
      refine T_if1 (by decide +kernel) ?_
      refine T_let 201 (by decide +kernel) ?_
      refine T_if0 (by decide) ?_
      refine T_if1 (by decide +kernel) ?_
      refine T_let 255 (by decide +kernel) ?_
      refine T_if1 (by decide +kernel) ?_
      refine T_up0 ((z_up_k (by decide)).trans ((z_up_k (by decide)).trans (by decide +kernel))) ?_
      refine T_of (fX7_put_J20.eq_1 ..) ?_
      refine T_rN ?_
      refine T_if1 (by decide +kernel) ?_
      refine T_let 191 (by decide +kernel) ?_
      refine T_if1 (by decide +kernel) ?_
      refine T_let 0 ((z_up_k (by decide)).trans ((z_up_k (by decide)).trans (by decide +kernel))) ?_
      refine T_let (-1) (by decide +kernel) ?_
      refine T_of (fX1_fewest_L25.eq_2 ..) ?_
      refine T_if1 (by decide) ?_
      refine T_if1 (by decide +kernel) ?_
      refine T_let 254 (by decide +kernel) ?_
      refine T_if1 (by decide +kernel) ?_
      refine T_bI ?_
      refine T_of (fX7_get.eq_1 ..) ?_
      refine T_if0 (by decide) ?_
      refine T_if1 (by decide +kernel) ?_
      refine T_let 255 (by decide +kernel) ?_
      refine T_if1 (by decide +kernel) ?_
      refine T_let 201 (by decide +kernel) ?_
      refine T_if0 (by decide) ?_
      refine T_if1 (by decide +kernel) ?_
      refine T_let 255 (by decide +kernel) ?_
      refine T_if1 (by decide +kernel) ?_
      refine T_let 0 ((z_up_k (by decide)).trans ((z_up_k (by decide)).trans (by decide +kernel))) ?_
      refine T_of (fX7_get_J23.eq_1 ..) ?_
      refine T_rI ?_
      refine T_rI ?_
      refine T_if0 (by omega) ?_
      refine T_of (fX11_shortestFor_J59.eq_1 ..) ?_
      refine T_of (fX11_shortestFor_L19.eq_2 ..) ?_
      refine T_if1 (by decide) ?_
      refine T_rI ?_
      refine T_of (fX11_least_L38.eq_2 ..) ?_
      refine T_if0 (by decide) ?_
      refine T_if1 (by decide +kernel) ?_
      refine T_let 249 (by decide +kernel) ?_
      refine T_if1 (by decide +kernel) ?_
      refine T_bN ?_
      refine T_of (fX1_go.eq_1 ..) ?_
      refine T_if1 (by decide) ?_
      refine T_of (fX1_go_J10.eq_1 ..) ?_
      refine T_if1 (by decide +kernel) ?_
      refine T_up0 ((z_up_k (by decide)).trans ((z_up_k (by decide)).trans (by decide +kernel))) ?_
      refine T_of (fX1_go_L17.eq_2 ..) ?_
      refine T_if1 (by decide +kernel) ?_
      refine T_let 191 (by decide +kernel) ?_
      refine T_if1 (by decide +kernel) ?_
      refine T_let 0 ((z_up_k (by decide)).trans ((z_up_k (by decide)).trans (by decide +kernel))) ?_
      refine T_if1 (by decide) ?_
      refine T_if1 (by decide +kernel) ?_
      refine T_let 256 (by decide +kernel) ?_
      refine T_if1 (by decide +kernel) ?_
      refine T_let 0 ((z_up_k (by decide)).trans ((z_up_k (by decide)).trans (by decide +kernel))) ?_
      refine T_if1 (by decide +kernel) ?_
      refine T_let 191 (by decide +kernel) ?_
      refine T_if1 (by decide +kernel) ?_
      refine T_let 0 ((z_up_k (by decide)).trans ((z_up_k (by decide)).trans (by decide +kernel))) ?_
      refine T_if1 (by decide +kernel) ?_
      refine T_bN ?_
      refine T_of (fX7_put.eq_1 ..) ?_
      refine T_if0 (by decide) ?_
      refine T_if1 (by decide +kernel) ?_
      refine T_let 257 (by decide +kernel) ?_
      refine T_if1 (by decide +kernel) ?_
      refine T_let 201 (by decide +kernel) ?_
      refine T_if0 (by decide) ?_
      refine T_if1 (by decide +kernel) ?_
      refine T_let 257 (by decide +kernel) ?_
      refine T_if1 (by decide +kernel) ?_
      refine T_up0 ((z_up_k (by decide)).trans ((z_up_k (by decide)).trans (by decide +kernel))) ?_
      refine T_of (fX7_put_J20.eq_1 ..) ?_
      refine T_rN ?_
      refine T_rN ?_
      refine T_if1 (by decide +kernel) ?_
      refine T_let 249 (by decide +kernel) ?_
      refine T_if1 (by decide +kernel) ?_
      refine T_let 0 ((z_up_k (by decide)).trans ((z_up_k (by decide)).trans (by decide +kernel))) ?_
      refine T_if0 (by omega) ?_
      refine T_if1 (by decide +kernel) ?_
      refine T_let 249 (by decide +kernel) ?_
      refine T_if1 (by decide +kernel) ?_
      refine T_bI ?_
      refine T_of (fX1_tooLong.eq_1 ..) ?_
      refine T_of (fX1_tooLong_L4.eq_2 ..) ?_
      refine T_if1 (by decide +kernel) ?_
      refine T_let 0 ((z_up_k (by decide)).trans ((z_up_k (by decide)).trans (by decide +kernel))) ?_
      refine T_if1 (by decide) ?_
      refine T_rI ?_
      refine T_if0 (by decide) ?_
      refine T_rcI ?_
      refine T_if1 (by decide +kernel) ?_
      refine T_up ?_
      refine T_rI ?_
      refine T_let 1 (by decide +kernel) ?_
      refine T_if1 (by decide) ?_
      refine T_let p1 q1 ?_
      refine T_if1 (by decide +kernel) ?_
      refine T_bI ?_
      refine T_of (fX12_least.eq_1 ..) ?_
      refine T_if1 (by decide +kernel) ?_
      refine T_up0 ((z_up_k (by decide)).trans ((z_up_k (by decide)).trans ((z_up_k (by decide)).trans (by decide +kernel)))) ?_
      refine T_bI ?_
      refine T_of (fX12_in.eq_1 ..) ?_
      refine T_if0 (by omega) ?_
      refine T_if0 (by omega) ?_
      refine T_of (fX12_in_J15.eq_1 ..) ?_
      refine T_if1 (by decide) ?_
      refine T_rI ?_
      refine T_if1 (by decide) ?_
      refine T_of (fX12_least_J22.eq_1 ..) ?_
      refine T_if1 (by decide +kernel) ?_
      refine T_bI ?_
      refine T_of (fX12_bad.eq_1 ..) ?_
      refine T_if1 (by decide) ?_
      refine T_of (fX12_bad_J26.eq_1 ..) ?_
      refine T_if1 (by decide +kernel) ?_
      refine T_let 0 ((z_up_k (by decide)).trans ((z_up_k (by decide)).trans ((z_up_k (by decide)).trans (by decide +kernel)))) ?_
      refine T_if1 (by decide) ?_
      refine T_of (fX12_bad_J38.eq_1 ..) ?_
      refine T_if1 (by decide) ?_
      refine T_rI ?_
      refine T_if1 (by decide) ?_
      refine T_if1 (by decide +kernel) ?_
      refine T_up0 ((z_up_k (by decide)).trans ((z_up_k (by decide)).trans ((z_up_k (by decide)).trans (by decide +kernel)))) ?_
      refine T_of (fX12_least_L40.eq_2 ..) ?_
      refine T_if0 (by decide) ?_
      refine T_if1 (by decide +kernel) ?_
      refine T_let 312 (by decide +kernel) ?_
      refine T_if1 (by decide +kernel) ?_
      refine T_let 0 ((z_up_k (by decide)).trans ((z_up_k (by decide)).trans ((z_up_k (by decide)).trans (by decide +kernel)))) ?_
      refine T_if1 (by decide +kernel) ?_
      refine T_bI ?_
      refine T_of (fX12_breaks.eq_1 ..) ?_
      refine T_if1 (by decide) ?_
      refine T_of (fX12_breaks_L15.eq_2 ..) ?_
      refine T_if1 (by decide +kernel) ?_
      refine T_let 0 ((z_up_k (by decide)).trans ((z_up_k (by decide)).trans ((z_up_k (by decide)).trans (by decide +kernel)))) ?_
      refine T_if1 (by decide) ?_
      refine T_if1 (by decide +kernel) ?_
      refine T_let 3438 (by decide +kernel) ?_
      refine T_if1 (by decide +kernel) ?_
      refine T_let 0 ((z_up_k (by decide)).trans ((z_up_k (by decide)).trans ((z_up_k (by decide)).trans (by decide +kernel)))) ?_
      refine T_if1 (by decide +kernel) ?_
      refine T_up0 ((z_up_k (by decide)).trans ((z_up_k (by decide)).trans ((z_up_k (by decide)).trans (by decide +kernel)))) ?_
      refine T_rI ?_
      refine T_if0 (by omega) ?_
      refine T_of (fX12_least_J69.eq_1 ..) ?_
      refine T_of (fX12_least_L74.eq_2 ..) ?_
      refine T_if1 (by decide) ?_
      refine T_of (fX12_least_J124.eq_1 ..) ?_
      refine T_if0 (by decide) ?_
      refine T_rI ?_
      refine T_if1 (by decide +kernel) ?_
      refine T_bI ?_
      refine T_of (fX12_thrown.eq_1 ..) ?_
      refine T_if1 (by decide +kernel) ?_
      refine T_let 0 ((z_up_k (by decide)).trans ((z_up_k (by decide)).trans ((z_up_k (by decide)).trans (by decide +kernel)))) ?_
      refine T_rI ?_
      refine T_if1 (by decide) ?_
      refine T_if0 (by decide) ?_
      refine T_if1 (by decide +kernel) ?_
      refine T_let 12 z_up_s ?_
      refine T_let 0 (by decide +kernel) ?_
      refine T_if1 (by decide) ?_
      refine T_of (fL_law_J1342.eq_1 ..) ?_
      refine T_of (fL_law_J2073.eq_1 ..) ?_
      refine T_let 6 (by decide +kernel) ?_
      exact hr _
    · refine T_of (fX11_needWithin_J10.eq_1 ..) ?_
      refine T_if1 (by decide +kernel) ?_
      refine T_let 0 (by decide +kernel) ?_
      refine T_let 1 (by decide +kernel) ?_
      refine T_if1 (by decide +kernel) ?_
      refine T_up ?_
      refine T_xN ?_
      refine T_x1I ?_
      refine T_rI ?_
      refine T_let 1 (by decide +kernel) ?_
      refine T_if1 (by decide) ?_
      refine T_let p1 q1 ?_
      refine T_if1 (by decide +kernel) ?_
      refine T_bI ?_
      refine T_of (fX12_least.eq_1 ..) ?_
      refine T_if1 (by decide +kernel) ?_
      refine T_up0 ((z_up_k (by decide)).trans (by decide +kernel)) ?_
      refine T_bI ?_
      refine T_of (fX12_in.eq_1 ..) ?_
      refine T_if0 (by omega) ?_
      refine T_if1 (by omega) ?_
      refine T_of (fX12_in_J14.eq_1 ..) ?_
      refine T_of (fX12_in_J15.eq_1 ..) ?_
      refine T_if1 (by decide) ?_
      refine T_rI ?_
      refine T_if0 (by decide) ?_
      refine T_of (fX12_least_J22.eq_1 ..) ?_
      refine T_if1 (by decide +kernel) ?_
      refine T_bI ?_
      refine T_of (fX12_bad.eq_1 ..) ?_
      refine T_if0 (by decide) ?_
      refine T_if1 (by decide +kernel) ?_
      refine T_let 0 ((z_up_k (by decide)).trans (by decide +kernel)) ?_
      refine T_if0 (by decide) ?_
      refine T_if1 (by decide +kernel) ?_
      refine T_up ?_
      refine T_if1 (by decide +kernel) ?_
      refine T_let 310 (by decide +kernel) ?_
      refine T_if1 (by decide +kernel) ?_
      refine T_let 0 ((z_up_k (by decide)).trans ((z_up_k (by decide)).trans (by decide +kernel))) ?_
      refine T_let 1 (by decide +kernel) ?_
      refine T_if1 (by decide +kernel) ?_
      refine T_up ?_
      refine T_of (fX12_bad_J26.eq_1 ..) ?_
      refine T_if1 (by decide +kernel) ?_
      refine T_let 1 ((z_up_k (by decide)).trans z_up_s) ?_
      refine T_if0 (by decide) ?_
      refine T_of (fX12_bad_J38.eq_1 ..) ?_
      refine T_if1 (by decide) ?_
      refine T_rI ?_
      refine T_if0 (by decide) ?_
      refine T_rI ?_
      refine T_if1 (by decide +kernel) ?_
      refine T_bI ?_
      refine T_of (fX12_thrown.eq_1 ..) ?_
      refine T_if1 (by decide +kernel) ?_
      refine T_let 1 ((z_up_k (by decide)).trans z_up_s) ?_
      refine T_rI ?_
      refine T_if1 (by decide) ?_
      refine T_if1 (by decide) ?_
      refine T_of (fL_law_J1342.eq_1 ..) ?_
      refine T_of (fL_law_J2073.eq_1 ..) ?_
      refine T_let 6 (by decide +kernel) ?_
      exact hr _
theorem c_1345 {xs : Nat → Int32} {r : z_M → Int → z_O} {k : z_M → z_O} {P : z_V → z_M → Prop} {p1 p2 p3 p4 p5 : Int} (q1 : Int32.toInt (xs 1) = p1) (q2 : Int32.toInt (xs 2) = p2) (q3 : Int32.toInt (xs 3) = p3) (q4 : Int32.toInt (xs 4) = p4) (q5 : Int32.toInt (xs 5) = p5) (hr : ∀ s, z_T (r s 6) P) : z_T (fL_law_J1345 1000 6 xs z_s0 1 309 7658 0 r k) P := by
  refine T_of (fL_law_J1345.eq_1 ..) ?_
  refine T_if1 (by decide +kernel) ?_
  refine T_bL ?_
  refine T_of (fX11_better.eq_1 ..) ?_
  refine T_if1 (by decide +kernel) ?_
  refine T_bN ?_
  refine T_of e_refresh ?_
  refine T_rN ?_
  refine T_if1 (by decide +kernel) ?_
  refine T_let 2 (by decide +kernel) ?_
  refine T_if1 (by decide +kernel) ?_
  refine T_bI ?_
  refine T_of (fX7_get.eq_1 ..) ?_
  refine T_if0 (by decide) ?_
  refine T_if1 (by decide +kernel) ?_
  refine T_let 3 (by decide +kernel) ?_
  refine T_if1 (by decide +kernel) ?_
  refine T_let 9 (by decide +kernel) ?_
  refine T_if0 (by decide) ?_
  refine T_if1 (by decide +kernel) ?_
  refine T_let 3 (by decide +kernel) ?_
  refine T_if1 (by decide +kernel) ?_
  refine T_let 120 ((z_up_k (by decide)).trans ((z_up_k (by decide)).trans (by decide +kernel))) ?_
  refine T_of (fX7_get_J23.eq_1 ..) ?_
  refine T_rI ?_
  refine T_if1 (by decide +kernel) ?_
  refine T_let 249 (by decide +kernel) ?_
  refine T_if1 (by decide +kernel) ?_
  refine T_bN ?_
  refine T_of (fX1_go.eq_1 ..) ?_
  refine T_if1 (by decide) ?_
  refine T_of (fX1_go_J10.eq_1 ..) ?_
  refine T_if1 (by decide +kernel) ?_
  refine T_up0 ((z_up_k (by decide)).trans ((z_up_k (by decide)).trans (by decide +kernel))) ?_
  refine T_of (fX1_go_L17.eq_2 ..) ?_
  refine T_if1 (by decide +kernel) ?_
  refine T_let 191 (by decide +kernel) ?_
  refine T_if1 (by decide +kernel) ?_
  refine T_let 0 ((z_up_k (by decide)).trans ((z_up_k (by decide)).trans (by decide +kernel))) ?_
  refine T_if1 (by decide) ?_
  refine T_if1 (by decide +kernel) ?_
  refine T_let 256 (by decide +kernel) ?_
  refine T_if1 (by decide +kernel) ?_
  refine T_let 0 ((z_up_k (by decide)).trans ((z_up_k (by decide)).trans (by decide +kernel))) ?_
  refine T_if1 (by decide +kernel) ?_
  refine T_let 191 (by decide +kernel) ?_
  refine T_if1 (by decide +kernel) ?_
  refine T_let 0 ((z_up_k (by decide)).trans ((z_up_k (by decide)).trans (by decide +kernel))) ?_
  refine T_if1 (by decide +kernel) ?_
  refine T_bN ?_
  refine T_of (fX7_put.eq_1 ..) ?_
  refine T_if0 (by decide) ?_
  refine T_if1 (by decide +kernel) ?_
  refine T_let 257 (by decide +kernel) ?_
  refine T_if1 (by decide +kernel) ?_
  refine T_let 201 (by decide +kernel) ?_
  refine T_if0 (by decide) ?_
  refine T_if1 (by decide +kernel) ?_
  refine T_let 257 (by decide +kernel) ?_
  refine T_if1 (by decide +kernel) ?_
  refine T_up0 ((z_up_k (by decide)).trans ((z_up_k (by decide)).trans (by decide +kernel))) ?_
  refine T_of (fX7_put_J20.eq_1 ..) ?_
  refine T_rN ?_
  refine T_rN ?_
  refine T_if1 (by decide +kernel) ?_
  refine T_let 249 (by decide +kernel) ?_
  refine T_if1 (by decide +kernel) ?_
  refine T_bL ?_
  refine T_of (fX1_costs.eq_1 ..) ?_
  refine T_of (fX1_costs_L5.eq_2 ..) ?_
  refine T_if1 (by decide +kernel) ?_
  refine T_let 0 ((z_up_k (by decide)).trans ((z_up_k (by decide)).trans (by decide +kernel))) ?_
  refine T_if1 (by decide) ?_
  refine T_rL ?_
  refine T_if1 (by decide +kernel) ?_
  refine T_let 249 (by decide +kernel) ?_
  refine T_if1 (by decide +kernel) ?_
  refine T_bN ?_
  refine T_of (fX1_go.eq_1 ..) ?_
  refine T_if0 (by decide) ?_
  refine T_if1 (by decide +kernel) ?_
  refine T_bN ?_
  refine T_of (fX1_chooseBest.eq_1 ..) ?_
  refine T_if1 (by decide +kernel) ?_
  refine T_let 252 (by decide +kernel) ?_
  refine T_if1 (by decide +kernel) ?_
  refine T_let 191 (by decide +kernel) ?_
  refine T_if1 (by decide +kernel) ?_
  refine T_let 0 ((z_up_k (by decide)).trans ((z_up_k (by decide)).trans (by decide +kernel))) ?_
  refine T_if1 (by decide +kernel) ?_
  refine T_bN ?_
  refine T_of (fX4_put.eq_1 ..) ?_
  refine T_if0 (by decide) ?_
  refine T_if1 (by decide +kernel) ?_
  refine T_let 253 (by decide +kernel) ?_
  refine T_if1 (by decide +kernel) ?_
  refine T_let 201 (by decide +kernel) ?_
  refine T_if0 (by decide) ?_
  refine T_if1 (by decide +kernel) ?_
  refine T_let 253 (by decide +kernel) ?_
  refine T_if1 (by decide +kernel) ?_
  refine T_up0 ((z_up_k (by decide)).trans ((z_up_k (by decide)).trans (by decide +kernel))) ?_
  refine T_of (fX4_put_J20.eq_1 ..) ?_
  refine T_rN ?_
  refine T_if1 (by decide +kernel) ?_
  refine T_let 191 (by decide +kernel) ?_
  refine T_if1 (by decide +kernel) ?_
  refine T_let 0 ((z_up_k (by decide)).trans ((z_up_k (by decide)).trans (by decide +kernel))) ?_
  refine T_let (-1) (by decide +kernel) ?_
  refine T_of (fX1_chooseBest_L25.eq_2 ..) ?_
  refine T_if1 (by decide) ?_
  refine T_rN ?_
  refine T_of (fX1_go_J10.eq_1 ..) ?_
  refine T_if1 (by decide +kernel) ?_
  refine T_up0 ((z_up_k (by decide)).trans ((z_up_k (by decide)).trans (by decide +kernel))) ?_
  refine T_of (fX1_go_L17.eq_2 ..) ?_
  refine T_if1 (by decide +kernel) ?_
  refine T_let 191 (by decide +kernel) ?_
  refine T_if1 (by decide +kernel) ?_
  refine T_let 0 ((z_up_k (by decide)).trans ((z_up_k (by decide)).trans (by decide +kernel))) ?_
  refine T_if1 (by decide) ?_
  refine T_if1 (by decide +kernel) ?_
  refine T_let 256 (by decide +kernel) ?_
  refine T_if1 (by decide +kernel) ?_
  refine T_let 0 ((z_up_k (by decide)).trans ((z_up_k (by decide)).trans (by decide +kernel))) ?_
  refine T_if1 (by decide +kernel) ?_
  refine T_let 191 (by decide +kernel) ?_
  refine T_if1 (by decide +kernel) ?_
  refine T_let 0 ((z_up_k (by decide)).trans ((z_up_k (by decide)).trans (by decide +kernel))) ?_
  refine T_if1 (by decide +kernel) ?_
  refine T_bN ?_
  refine T_of (fX7_put.eq_1 ..) ?_
  refine T_if0 (by decide) ?_
  refine T_if1 (by decide +kernel) ?_
  refine T_let 257 (by decide +kernel) ?_
  refine T_if1 (by decide +kernel) ?_
  refine T_let 201 (by decide +kernel) ?_
  refine T_if0 (by decide) ?_
  refine T_if1 (by decide +kernel) ?_
  refine T_let 257 (by decide +kernel) ?_
  refine T_if1 (by decide +kernel) ?_
  refine T_up0 ((z_up_k (by decide)).trans ((z_up_k (by decide)).trans (by decide +kernel))) ?_
  refine T_of (fX7_put_J20.eq_1 ..) ?_
  refine T_rN ?_
  refine T_rN ?_
  refine T_if1 (by decide +kernel) ?_
  refine T_let 249 (by decide +kernel) ?_
  refine T_if1 (by decide +kernel) ?_
  refine T_bL ?_
  refine T_of (fX1_costs.eq_1 ..) ?_
  refine T_of (fX1_costs_L5.eq_2 ..) ?_
  refine T_if1 (by decide +kernel) ?_
  refine T_let 0 ((z_up_k (by decide)).trans ((z_up_k (by decide)).trans (by decide +kernel))) ?_
  refine T_if1 (by decide) ?_
  refine T_rL ?_
  refine T_let 0 (by decide +kernel) ?_
  refine T_rL ?_
  refine T_if1 (by decide +kernel) ?_
  refine T_bL ?_
  refine T_of (fX12_better.eq_1 ..) ?_
  refine T_if1 (by decide +kernel) ?_
  refine T_up0 ((z_up_k (by decide)).trans ((z_up_k (by decide)).trans (by decide +kernel))) ?_
  refine T_if1 (by decide +kernel) ?_
  refine T_bL ?_
  refine T_of (fX12_costsBy.eq_1 ..) ?_
  refine T_if1 (by decide +kernel) ?_
  refine T_let 312 (by decide +kernel) ?_
  refine T_if1 (by decide +kernel) ?_
  refine T_let 120 ((z_up_k (by decide)).trans ((z_up_k (by decide)).trans (by decide +kernel))) ?_
  refine T_if1 (by decide +kernel) ?_
  refine T_bI ?_
  refine T_of (fX12_breaks.eq_1 ..) ?_
  refine T_if1 (by decide) ?_
  refine T_of (fX12_breaks_L15.eq_2 ..) ?_
  refine T_if1 (by decide +kernel) ?_
  refine T_let 0 ((z_up_k (by decide)).trans ((z_up_k (by decide)).trans (by decide +kernel))) ?_
  refine T_if1 (by decide) ?_
  refine T_if1 (by decide +kernel) ?_
  refine T_let 3438 (by decide +kernel) ?_
  refine T_if1 (by decide +kernel) ?_
  refine T_let 0 ((z_up_k (by decide)).trans ((z_up_k (by decide)).trans (by decide +kernel))) ?_
  refine T_if1 (by decide +kernel) ?_
  refine T_up0 ((z_up_k (by decide)).trans ((z_up_k (by decide)).trans (by decide +kernel))) ?_
  refine T_rI ?_
  refine T_if1 (by decide +kernel) ?_
  refine T_up0 ((z_up_k (by decide)).trans ((z_up_k (by decide)).trans (by decide +kernel))) ?_
  refine T_if1 (by decide +kernel) ?_
  refine T_up0 ((z_up_k (by decide)).trans ((z_up_k (by decide)).trans (by decide +kernel))) ?_
  refine T_if1 (by decide +kernel) ?_
  refine T_bL ?_
  refine T_of (fX12_costs.eq_1 ..) ?_
  refine T_of (fX12_costs_L4.eq_2 ..) ?_
  refine T_if1 (by decide +kernel) ?_
  refine T_let 0 ((z_up_k (by decide)).trans ((z_up_k (by decide)).trans (by decide +kernel))) ?_
  refine T_if1 (by decide) ?_
  refine T_rL ?_
  refine T_rL ?_
  refine T_if1 (by decide +kernel) ?_
  refine T_bL ?_
  refine T_of (fX12_costsBy.eq_1 ..) ?_
  refine T_if1 (by decide +kernel) ?_
  refine T_let 312 (by decide +kernel) ?_
  refine T_if1 (by decide +kernel) ?_
  refine T_let 120 ((z_up_k (by decide)).trans ((z_up_k (by decide)).trans (by decide +kernel))) ?_
  refine T_if1 (by decide +kernel) ?_
  refine T_bI ?_
  refine T_of (fX12_breaks.eq_1 ..) ?_
  refine T_if0 (by decide) ?_
  refine T_if1 (by decide +kernel) ?_
  refine T_bN ?_
  refine T_of (fX12_laysBest.eq_1 ..) ?_
  refine T_if1 (by decide +kernel) ?_
  refine T_let 3439 (by decide +kernel) ?_
  refine T_if1 (by decide +kernel) ?_
  refine T_let 0 ((z_up_k (by decide)).trans ((z_up_k (by decide)).trans (by decide +kernel))) ?_
  refine T_if1 (by decide +kernel) ?_
  refine T_up0 ((z_up_k (by decide)).trans ((z_up_k (by decide)).trans (by decide +kernel))) ?_
  refine T_if1 (by decide +kernel) ?_
  refine T_let 0 ((z_up_k (by decide)).trans ((z_up_k (by decide)).trans (by decide +kernel))) ?_
  refine T_let (-1) (by decide +kernel) ?_
  refine T_of (fX12_laysBest_L17.eq_2 ..) ?_
  refine T_if1 (by decide) ?_
  refine T_rN ?_
  refine T_of (fX12_breaks_L15.eq_2 ..) ?_
  refine T_if1 (by decide +kernel) ?_
  refine T_let 0 ((z_up_k (by decide)).trans ((z_up_k (by decide)).trans (by decide +kernel))) ?_
  refine T_if1 (by decide) ?_
  refine T_if1 (by decide +kernel) ?_
  refine T_let 3438 (by decide +kernel) ?_
  refine T_if1 (by decide +kernel) ?_
  refine T_let 0 ((z_up_k (by decide)).trans ((z_up_k (by decide)).trans (by decide +kernel))) ?_
  refine T_if1 (by decide +kernel) ?_
  refine T_up0 ((z_up_k (by decide)).trans ((z_up_k (by decide)).trans (by decide +kernel))) ?_
  refine T_rI ?_
  refine T_if1 (by decide +kernel) ?_
  refine T_up0 ((z_up_k (by decide)).trans ((z_up_k (by decide)).trans (by decide +kernel))) ?_
  refine T_if1 (by decide +kernel) ?_
  refine T_up0 ((z_up_k (by decide)).trans ((z_up_k (by decide)).trans (by decide +kernel))) ?_
  refine T_if1 (by decide +kernel) ?_
  refine T_bL ?_
  refine T_of (fX12_costs.eq_1 ..) ?_
  refine T_of (fX12_costs_L4.eq_2 ..) ?_
  refine T_if1 (by decide +kernel) ?_
  refine T_let 0 ((z_up_k (by decide)).trans ((z_up_k (by decide)).trans (by decide +kernel))) ?_
  refine T_if1 (by decide) ?_
  refine T_rL ?_
  refine T_rL ?_
  refine T_let 0 (by decide +kernel) ?_
  refine T_rL ?_
  refine T_let 0 (by decide +kernel) ?_
  refine T_if1 (by decide) ?_
  refine T_of (fL_law_J2073.eq_1 ..) ?_
  refine T_let 6 (by decide +kernel) ?_
  exact hr _
theorem c_1359 {xs : Nat → Int32} {r : z_M → Int → z_O} {k : z_M → z_O} {P : z_V → z_M → Prop} {p1 p2 p3 p4 p5 : Int} (q1 : Int32.toInt (xs 1) = p1) (q2 : Int32.toInt (xs 2) = p2) (q3 : Int32.toInt (xs 3) = p3) (q4 : Int32.toInt (xs 4) = p4) (q5 : Int32.toInt (xs 5) = p5) (hr : ∀ s, z_T (r s 6) P) : z_T (fL_law_J1359 1000 6 xs z_s0 1 309 7658 0 r k) P := by
  refine T_of (fL_law_J1359.eq_1 ..) ?_
  refine T_let 1 (by decide +kernel) ?_
  refine T_if1 (by decide) ?_
  refine T_let p1 q1 ?_
  refine T_bI ?_
  refine T_of (fL_marks.eq_1 ..) ?_
  refine T_if1 (by decide +kernel) ?_
  refine T_cI ?_
  refine T_of (fX11_marks.eq_1 ..) ?_
  refine T_if1 (by decide +kernel) ?_
  refine T_bN ?_
  refine T_of (fX11_needWithin.eq_1 ..) ?_
  refine T_ite (fun h1 => ?_) (fun h1 => ?_)
  · refine T_of (fX11_needWithin_J10.eq_1 ..) ?_
    refine T_if1 (by decide +kernel) ?_
    refine T_let 0 (by decide +kernel) ?_
    refine T_let 1 (by decide +kernel) ?_
    refine T_if1 (by decide +kernel) ?_
    refine T_up ?_
    refine T_xN ?_
    refine T_x1I ?_
    refine T_rI ?_
    refine T_let 1 (by decide +kernel) ?_
    refine T_if1 (by decide) ?_
    refine T_let p1 q1 ?_
    refine T_if1 (by decide +kernel) ?_
    refine T_bI ?_
    refine T_of (fX12_marks.eq_1 ..) ?_
    refine T_if1 (by decide +kernel) ?_
    refine T_up0 ((z_up_k (by decide)).trans (by decide +kernel)) ?_
    refine T_bI ?_
    refine T_of (fX12_in.eq_1 ..) ?_
    refine T_if1 (by omega) ?_
    refine T_of (fX12_in_J14.eq_1 ..) ?_
    refine T_of (fX12_in_J15.eq_1 ..) ?_
    refine T_if1 (by decide) ?_
    refine T_rI ?_
    refine T_if0 (by decide) ?_
    refine T_of (fX12_marks_J20.eq_1 ..) ?_
    refine T_if1 (by decide +kernel) ?_
    refine T_bI ?_
    refine T_of (fX12_bad.eq_1 ..) ?_
    refine T_if0 (by decide) ?_
    refine T_if1 (by decide +kernel) ?_
    refine T_let 0 ((z_up_k (by decide)).trans (by decide +kernel)) ?_
    refine T_if0 (by decide) ?_
    refine T_if1 (by decide +kernel) ?_
    refine T_up ?_
    refine T_if1 (by decide +kernel) ?_
    refine T_let 310 (by decide +kernel) ?_
    refine T_if1 (by decide +kernel) ?_
    refine T_let 0 ((z_up_k (by decide)).trans ((z_up_k (by decide)).trans (by decide +kernel))) ?_
    refine T_let 1 (by decide +kernel) ?_
    refine T_if1 (by decide +kernel) ?_
    refine T_up ?_
    refine T_of (fX12_bad_J26.eq_1 ..) ?_
    refine T_if1 (by decide +kernel) ?_
    refine T_let 1 ((z_up_k (by decide)).trans z_up_s) ?_
    refine T_if0 (by decide) ?_
    refine T_of (fX12_bad_J38.eq_1 ..) ?_
    refine T_if1 (by decide) ?_
    refine T_rI ?_
    refine T_if0 (by decide) ?_
    refine T_rI ?_
    refine T_if1 (by decide +kernel) ?_
    refine T_bI ?_
    refine T_of (fX12_thrown.eq_1 ..) ?_
    refine T_if1 (by decide +kernel) ?_
    refine T_let 1 ((z_up_k (by decide)).trans z_up_s) ?_
    refine T_rI ?_
    refine T_if1 (by decide) ?_
    refine T_if1 (by decide) ?_
    refine T_of (fL_law_J1412.eq_1 ..) ?_
    refine T_of (fL_law_J2073.eq_1 ..) ?_
    refine T_let 6 (by decide +kernel) ?_
    exact hr _
  · refine T_ite (fun h2 => ?_) (fun h2 => ?_)
    · refine T_rN ?_
      refine T_if1 (by decide +kernel) ?_
      refine T_bN ?_
      refine T_of e_refresh ?_
      refine T_rN ?_
      refine T_if1 (by decide +kernel) ?_
      refine T_let 191 (by decide +kernel) ?_
      refine T_if1 (by decide +kernel) ?_
      refine T_let 6 (by decide +kernel) ?_
      refine T_if1 (by decide +kernel) ?_
      refine T_let 0 ((z_up_k (by decide)).trans ((z_up_k (by decide)).trans (by decide +kernel))) ?_
      refine T_let (-1) (by decide +kernel) ?_
      refine T_if1 (by decide +kernel) ?_
      refine T_bI ?_
      refine T_of (fX10_marksOf.eq_1 ..) ?_
      refine T_of (fX10_marksOf_L6.eq_2 ..) ?_
      refine T_if1 (by decide) ?_
      refine T_rI ?_
      refine T_rcI ?_
      refine T_if1 (by decide +kernel) ?_
      refine T_up0 ((z_up_k (by decide)).trans ((z_up_k (by decide)).trans (by decide +kernel))) ?_
      refine T_rI ?_
      refine T_let 1 (by decide +kernel) ?_
      refine T_if1 (by decide) ?_
      refine T_let p1 q1 ?_
      refine T_if1 (by decide +kernel) ?_
      refine T_bI ?_
      refine T_of (fX12_marks.eq_1 ..) ?_
      refine T_if1 (by decide +kernel) ?_
      refine T_up0 ((z_up_k (by decide)).trans ((z_up_k (by decide)).trans (by decide +kernel))) ?_
      refine T_bI ?_
      refine T_of (fX12_in.eq_1 ..) ?_
      refine T_if0 (by omega) ?_
      refine T_if0 (by omega) ?_
      refine T_of (fX12_in_J15.eq_1 ..) ?_
      refine T_if1 (by decide) ?_
      refine T_rI ?_
      refine T_if1 (by decide) ?_
      refine T_of (fX12_marks_J20.eq_1 ..) ?_
      refine T_if1 (by decide +kernel) ?_
      refine T_bI ?_
      refine T_of (fX12_bad.eq_1 ..) ?_
      refine T_if1 (by decide) ?_
      refine T_of (fX12_bad_J26.eq_1 ..) ?_
      refine T_if1 (by decide +kernel) ?_
      refine T_let 0 ((z_up_k (by decide)).trans ((z_up_k (by decide)).trans (by decide +kernel))) ?_
      refine T_if1 (by decide) ?_
      refine T_of (fX12_bad_J38.eq_1 ..) ?_
      refine T_if1 (by decide) ?_
      refine T_rI ?_
      refine T_if1 (by decide) ?_
      refine T_of (fX12_marks_L34.eq_2 ..) ?_
      refine T_if1 (by decide +kernel) ?_
      refine T_let 315 (by decide +kernel) ?_
      refine T_if1 (by decide +kernel) ?_
      refine T_let 316 (by decide +kernel) ?_
      refine T_if1 (by decide +kernel) ?_
      refine T_let 0 ((z_up_k (by decide)).trans ((z_up_k (by decide)).trans (by decide +kernel))) ?_
      refine T_if1 (by decide) ?_
      refine T_rI ?_
      refine T_if1 (by decide +kernel) ?_
      refine T_bI ?_
      refine T_of (fX12_thrown.eq_1 ..) ?_
      refine T_if1 (by decide +kernel) ?_
      refine T_let 0 ((z_up_k (by decide)).trans ((z_up_k (by decide)).trans (by decide +kernel))) ?_
      refine T_rI ?_
      refine T_if1 (by decide) ?_
      refine T_if0 (by decide) ?_
      refine T_if1 (by decide +kernel) ?_
      refine T_let 0 ((z_up_k (by decide)).trans ((z_up_k (by decide)).trans (by decide +kernel))) ?_
      refine T_let 0 (by decide +kernel) ?_
      refine T_if1 (by decide) ?_
      refine T_of (fL_law_J1412.eq_1 ..) ?_
      refine T_of (fL_law_J2073.eq_1 ..) ?_
      refine T_let 6 (by decide +kernel) ?_
      exact hr _
    · refine T_of (fX11_needWithin_J10.eq_1 ..) ?_
      refine T_if1 (by decide +kernel) ?_
      refine T_let 0 (by decide +kernel) ?_
      refine T_let 1 (by decide +kernel) ?_
      refine T_if1 (by decide +kernel) ?_
      refine T_up ?_
      refine T_xN ?_
      refine T_x1I ?_
      refine T_rI ?_
      refine T_let 1 (by decide +kernel) ?_
      refine T_if1 (by decide) ?_
      refine T_let p1 q1 ?_
      refine T_if1 (by decide +kernel) ?_
      refine T_bI ?_
      refine T_of (fX12_marks.eq_1 ..) ?_
      refine T_if1 (by decide +kernel) ?_
      refine T_up0 ((z_up_k (by decide)).trans (by decide +kernel)) ?_
      refine T_bI ?_
      refine T_of (fX12_in.eq_1 ..) ?_
      refine T_if0 (by omega) ?_
      refine T_if1 (by omega) ?_
      refine T_of (fX12_in_J14.eq_1 ..) ?_
      refine T_of (fX12_in_J15.eq_1 ..) ?_
      refine T_if1 (by decide) ?_
      refine T_rI ?_
      refine T_if0 (by decide) ?_
      refine T_of (fX12_marks_J20.eq_1 ..) ?_
      refine T_if1 (by decide +kernel) ?_
      refine T_bI ?_
      refine T_of (fX12_bad.eq_1 ..) ?_
      refine T_if0 (by decide) ?_
      refine T_if1 (by decide +kernel) ?_
      refine T_let 0 ((z_up_k (by decide)).trans (by decide +kernel)) ?_
      refine T_if0 (by decide) ?_
      refine T_if1 (by decide +kernel) ?_
      refine T_up ?_
      refine T_if1 (by decide +kernel) ?_
      refine T_let 310 (by decide +kernel) ?_
      refine T_if1 (by decide +kernel) ?_
      refine T_let 0 ((z_up_k (by decide)).trans ((z_up_k (by decide)).trans (by decide +kernel))) ?_
      refine T_let 1 (by decide +kernel) ?_
      refine T_if1 (by decide +kernel) ?_
      refine T_up ?_
      refine T_of (fX12_bad_J26.eq_1 ..) ?_
      refine T_if1 (by decide +kernel) ?_
      refine T_let 1 ((z_up_k (by decide)).trans z_up_s) ?_
      refine T_if0 (by decide) ?_
      refine T_of (fX12_bad_J38.eq_1 ..) ?_
      refine T_if1 (by decide) ?_
      refine T_rI ?_
      refine T_if0 (by decide) ?_
      refine T_rI ?_
      refine T_if1 (by decide +kernel) ?_
      refine T_bI ?_
      refine T_of (fX12_thrown.eq_1 ..) ?_
      refine T_if1 (by decide +kernel) ?_
      refine T_let 1 ((z_up_k (by decide)).trans z_up_s) ?_
      refine T_rI ?_
      refine T_if1 (by decide) ?_
      refine T_if1 (by decide) ?_
      refine T_of (fL_law_J1412.eq_1 ..) ?_
      refine T_of (fL_law_J2073.eq_1 ..) ?_
      refine T_let 6 (by decide +kernel) ?_
      exact hr _
theorem c_1415 {xs : Nat → Int32} {r : z_M → Int → z_O} {k : z_M → z_O} {P : z_V → z_M → Prop} {p1 p2 p3 p4 p5 : Int} (q1 : Int32.toInt (xs 1) = p1) (q2 : Int32.toInt (xs 2) = p2) (q3 : Int32.toInt (xs 3) = p3) (q4 : Int32.toInt (xs 4) = p4) (q5 : Int32.toInt (xs 5) = p5) (hr : ∀ s, z_T (r s 6) P) : z_T (fL_law_J1415 1000 6 xs z_s0 1 309 7658 0 r k) P := by
  refine T_of (fL_law_J1415.eq_1 ..) ?_
  refine T_if1 (by decide +kernel) ?_
  refine T_bI ?_
  refine T_of (fX11_moves.eq_1 ..) ?_
  refine T_if1 (by decide +kernel) ?_
  refine T_bN ?_
  refine T_of e_refresh ?_
  refine T_rN ?_
  refine T_if1 (by decide +kernel) ?_
  refine T_let 2 (by decide +kernel) ?_
  refine T_if1 (by decide +kernel) ?_
  refine T_let 2 (by decide +kernel) ?_
  refine T_if1 (by decide +kernel) ?_
  refine T_bI ?_
  refine T_of (fX7_get.eq_1 ..) ?_
  refine T_if0 (by decide) ?_
  refine T_if1 (by decide +kernel) ?_
  refine T_let 3 (by decide +kernel) ?_
  refine T_if1 (by decide +kernel) ?_
  refine T_let 9 (by decide +kernel) ?_
  refine T_if0 (by decide) ?_
  refine T_if1 (by decide +kernel) ?_
  refine T_let 3 (by decide +kernel) ?_
  refine T_if1 (by decide +kernel) ?_
  refine T_let 1 ((z_up_k (by decide)).trans ((z_up_k (by decide)).trans (by decide +kernel))) ?_
  refine T_of (fX7_get_J23.eq_1 ..) ?_
  refine T_rI ?_
  refine T_let 0 (by decide +kernel) ?_
  refine T_if1 (by decide +kernel) ?_
  refine T_bN ?_
  refine T_of (fX7_put.eq_1 ..) ?_
  refine T_if0 (by decide) ?_
  refine T_if1 (by decide +kernel) ?_
  refine T_let 3 (by decide +kernel) ?_
  refine T_if1 (by decide +kernel) ?_
  refine T_let 9 (by decide +kernel) ?_
  refine T_if0 (by decide) ?_
  refine T_if1 (by decide +kernel) ?_
  refine T_let 3 (by decide +kernel) ?_
  refine T_if1 (by decide +kernel) ?_
  refine T_up ?_
  refine T_of (fX7_put_J20.eq_1 ..) ?_
  refine T_rN ?_
  refine T_if1 (by decide +kernel) ?_
  refine T_let 191 (by decide +kernel) ?_
  refine T_if1 (by decide +kernel) ?_
  refine T_bN ?_
  refine T_of (fX10_build.eq_1 ..) ?_
  refine T_if1 (by decide +kernel) ?_
  refine T_bN ?_
  refine T_of (fX10_split.eq_1 ..) ?_
  refine T_if1 (by decide +kernel) ?_
  refine T_up0 ((z_up_k (by decide)).trans ((z_up_k (by decide)).trans ((z_up_k (by decide)).trans (by decide +kernel)))) ?_
  refine T_of (fX10_split_L7.eq_2 ..) ?_
  refine T_if1 (by decide +kernel) ?_
  refine T_let 6 (by decide +kernel) ?_
  refine T_if1 (by decide +kernel) ?_
  refine T_let 0 ((z_up_k (by decide)).trans ((z_up_k (by decide)).trans ((z_up_k (by decide)).trans (by decide +kernel)))) ?_
  refine T_if1 (by decide) ?_
  refine T_rN ?_
  refine T_of (fX10_build_L6.eq_2 ..) ?_
  refine T_if1 (by decide +kernel) ?_
  refine T_let 0 ((z_up_k (by decide)).trans ((z_up_k (by decide)).trans ((z_up_k (by decide)).trans (by decide +kernel)))) ?_
  refine T_if1 (by decide) ?_
  refine T_if1 (by decide +kernel) ?_
  refine T_bN ?_
  refine T_of (fX10_addUp.eq_1 ..) ?_
  refine T_of (fX10_addUp_L2.eq_2 ..) ?_
  refine T_if1 (by decide +kernel) ?_
  refine T_let 0 ((z_up_k (by decide)).trans ((z_up_k (by decide)).trans ((z_up_k (by decide)).trans (by decide +kernel)))) ?_
  refine T_if1 (by decide) ?_
  refine T_rN ?_
  refine T_if1 (by decide +kernel) ?_
  refine T_bN ?_
  refine T_of (fX10_pairUp.eq_1 ..) ?_
  refine T_if1 (by decide +kernel) ?_
  refine T_up0 ((z_up_k (by decide)).trans ((z_up_k (by decide)).trans ((z_up_k (by decide)).trans (by decide +kernel)))) ?_
  refine T_of (fX10_pairUp_L7.eq_2 ..) ?_
  refine T_if1 (by decide +kernel) ?_
  refine T_let 0 ((z_up_k (by decide)).trans ((z_up_k (by decide)).trans ((z_up_k (by decide)).trans (by decide +kernel)))) ?_
  refine T_if1 (by decide) ?_
  refine T_rN ?_
  refine T_of (fX10_build_L35.eq_2 ..) ?_
  refine T_if1 (by decide +kernel) ?_
  refine T_let 0 ((z_up_k (by decide)).trans ((z_up_k (by decide)).trans ((z_up_k (by decide)).trans (by decide +kernel)))) ?_
  refine T_if1 (by decide) ?_
  refine T_if1 (by decide +kernel) ?_
  refine T_bN ?_
  refine T_of (fX10_tie.eq_1 ..) ?_
  refine T_if1 (by decide +kernel) ?_
  refine T_up0 ((z_up_k (by decide)).trans ((z_up_k (by decide)).trans ((z_up_k (by decide)).trans (by decide +kernel)))) ?_
  refine T_of (fX10_tie_L7.eq_2 ..) ?_
  refine T_if1 (by decide +kernel) ?_
  refine T_let 0 ((z_up_k (by decide)).trans ((z_up_k (by decide)).trans ((z_up_k (by decide)).trans (by decide +kernel)))) ?_
  refine T_if1 (by decide) ?_
  refine T_rN ?_
  refine T_rN ?_
  refine T_if1 (by decide +kernel) ?_
  refine T_let 220 (by decide +kernel) ?_
  refine T_if1 (by decide +kernel) ?_
  refine T_bN ?_
  refine T_of (fX5_forget.eq_1 ..) ?_
  refine T_if1 (by decide +kernel) ?_
  refine T_let 221 (by decide +kernel) ?_
  refine T_if1 (by decide +kernel) ?_
  refine T_let 191 (by decide +kernel) ?_
  refine T_if1 (by decide +kernel) ?_
  refine T_let 0 ((z_up_k (by decide)).trans ((z_up_k (by decide)).trans ((z_up_k (by decide)).trans (by decide +kernel)))) ?_
  refine T_bI ?_
  refine T_of (fX5_slotOf.eq_1 ..) ?_
  refine T_let 1 (by decide +kernel) ?_
  refine T_let 0 (by decide +kernel) ?_
  refine T_if1 (by decide) ?_
  refine T_let 0 (by decide +kernel) ?_
  refine T_let 0 (by decide +kernel) ?_
  refine T_rI ?_
  refine T_if1 (by decide +kernel) ?_
  refine T_bN ?_
  refine T_of (fX7_clear.eq_1 ..) ?_
  refine T_of (fX7_clear_L2.eq_2 ..) ?_
  refine T_if1 (by decide) ?_
  refine T_rN ?_
  refine T_rN ?_
  refine T_if1 (by decide +kernel) ?_
  refine T_let 249 (by decide +kernel) ?_
  refine T_if1 (by decide +kernel) ?_
  refine T_let 2 (by decide +kernel) ?_
  refine T_if1 (by decide +kernel) ?_
  refine T_bI ?_
  refine T_of (fX7_get.eq_1 ..) ?_
  refine T_if0 (by decide) ?_
  refine T_if1 (by decide +kernel) ?_
  refine T_let 3 (by decide +kernel) ?_
  refine T_if1 (by decide +kernel) ?_
  refine T_let 9 (by decide +kernel) ?_
  refine T_if0 (by decide) ?_
  refine T_if1 (by decide +kernel) ?_
  refine T_let 3 (by decide +kernel) ?_
  refine T_if1 (by decide +kernel) ?_
  refine T_let 120 ((z_up_j (by decide)).trans ((z_up_k (by decide)).trans ((z_up_k (by decide)).trans (by decide +kernel)))) ?_
  refine T_of (fX7_get_J23.eq_1 ..) ?_
  refine T_rI ?_
  refine T_if1 (by decide +kernel) ?_
  refine T_let 2 (by decide +kernel) ?_
  refine T_if1 (by decide +kernel) ?_
  refine T_bI ?_
  refine T_of (fX7_get.eq_1 ..) ?_
  refine T_if0 (by decide) ?_
  refine T_if1 (by decide +kernel) ?_
  refine T_let 3 (by decide +kernel) ?_
  refine T_if1 (by decide +kernel) ?_
  refine T_let 9 (by decide +kernel) ?_
  refine T_if0 (by decide) ?_
  refine T_if1 (by decide +kernel) ?_
  refine T_let 3 (by decide +kernel) ?_
  refine T_if1 (by decide +kernel) ?_
  refine T_let 0 ((z_up_j (by decide)).trans ((z_up_k (by decide)).trans ((z_up_k (by decide)).trans (by decide +kernel)))) ?_
  refine T_of (fX7_get_J23.eq_1 ..) ?_
  refine T_rI ?_
  refine T_if1 (by decide +kernel) ?_
  refine T_bN ?_
  refine T_of (fX1_go.eq_1 ..) ?_
  refine T_if1 (by decide) ?_
  refine T_of (fX1_go_J10.eq_1 ..) ?_
  refine T_if1 (by decide +kernel) ?_
  refine T_up0 ((z_up_k (by decide)).trans ((z_up_k (by decide)).trans ((z_up_k (by decide)).trans (by decide +kernel)))) ?_
  refine T_of (fX1_go_L17.eq_2 ..) ?_
  refine T_if1 (by decide +kernel) ?_
  refine T_let 191 (by decide +kernel) ?_
  refine T_if1 (by decide +kernel) ?_
  refine T_let 0 ((z_up_k (by decide)).trans ((z_up_k (by decide)).trans ((z_up_k (by decide)).trans (by decide +kernel)))) ?_
  refine T_if1 (by decide) ?_
  refine T_if1 (by decide +kernel) ?_
  refine T_let 256 (by decide +kernel) ?_
  refine T_if1 (by decide +kernel) ?_
  refine T_let 0 ((z_up_k (by decide)).trans ((z_up_k (by decide)).trans ((z_up_k (by decide)).trans (by decide +kernel)))) ?_
  refine T_if1 (by decide +kernel) ?_
  refine T_let 191 (by decide +kernel) ?_
  refine T_if1 (by decide +kernel) ?_
  refine T_let 0 ((z_up_k (by decide)).trans ((z_up_k (by decide)).trans ((z_up_k (by decide)).trans (by decide +kernel)))) ?_
  refine T_if1 (by decide +kernel) ?_
  refine T_bN ?_
  refine T_of (fX7_put.eq_1 ..) ?_
  refine T_if0 (by decide) ?_
  refine T_if1 (by decide +kernel) ?_
  refine T_let 257 (by decide +kernel) ?_
  refine T_if1 (by decide +kernel) ?_
  refine T_let 201 (by decide +kernel) ?_
  refine T_if0 (by decide) ?_
  refine T_if1 (by decide +kernel) ?_
  refine T_let 257 (by decide +kernel) ?_
  refine T_if1 (by decide +kernel) ?_
  refine T_up0 ((z_up_k (by decide)).trans ((z_up_k (by decide)).trans ((z_up_k (by decide)).trans (by decide +kernel)))) ?_
  refine T_of (fX7_put_J20.eq_1 ..) ?_
  refine T_rN ?_
  refine T_rN ?_
  refine T_if1 (by decide +kernel) ?_
  refine T_let 249 (by decide +kernel) ?_
  refine T_if1 (by decide +kernel) ?_
  refine T_let 258 (by decide +kernel) ?_
  refine T_if1 (by decide +kernel) ?_
  refine T_let 259 (by decide +kernel) ?_
  refine T_if1 (by decide +kernel) ?_
  refine T_bI ?_
  refine T_of (fX1_movedFrom.eq_1 ..) ?_
  refine T_of (fX1_movedFrom_L4.eq_2 ..) ?_
  refine T_if1 (by decide +kernel) ?_
  refine T_let 0 ((z_up_k (by decide)).trans ((z_up_k (by decide)).trans ((z_up_k (by decide)).trans (by decide +kernel)))) ?_
  refine T_if1 (by decide) ?_
  refine T_rI ?_
  refine T_if1 (by decide +kernel) ?_
  refine T_let 2 (by decide +kernel) ?_
  refine T_if1 (by decide +kernel) ?_
  refine T_let 2 (by decide +kernel) ?_
  refine T_if1 (by decide +kernel) ?_
  refine T_bI ?_
  refine T_of (fX7_get.eq_1 ..) ?_
  refine T_if0 (by decide) ?_
  refine T_if1 (by decide +kernel) ?_
  refine T_let 3 (by decide +kernel) ?_
  refine T_if1 (by decide +kernel) ?_
  refine T_let 9 (by decide +kernel) ?_
  refine T_if0 (by decide) ?_
  refine T_if1 (by decide +kernel) ?_
  refine T_let 3 (by decide +kernel) ?_
  refine T_if1 (by decide +kernel) ?_
  refine T_let 0 z_up_s ?_
  refine T_of (fX7_get_J23.eq_1 ..) ?_
  refine T_rI ?_
  refine T_let 1 (by decide +kernel) ?_
  refine T_if1 (by decide +kernel) ?_
  refine T_bN ?_
  refine T_of (fX7_put.eq_1 ..) ?_
  refine T_if0 (by decide) ?_
  refine T_if1 (by decide +kernel) ?_
  refine T_let 3 (by decide +kernel) ?_
  refine T_if1 (by decide +kernel) ?_
  refine T_let 9 (by decide +kernel) ?_
  refine T_if0 (by decide) ?_
  refine T_if1 (by decide +kernel) ?_
  refine T_let 3 (by decide +kernel) ?_
  refine T_if1 (by decide +kernel) ?_
  refine T_up ?_
  refine T_of (fX7_put_J20.eq_1 ..) ?_
  refine T_rN ?_
  refine T_if1 (by decide +kernel) ?_
  refine T_up ?_
  refine T_rI ?_
  refine T_if1 (by decide +kernel) ?_
  refine T_bI ?_
  refine T_of (fX12_moves.eq_1 ..) ?_
  refine T_if1 (by decide +kernel) ?_
  refine T_up0 ((z_up_k (by decide)).trans ((z_up_k (by decide)).trans ((z_up_k (by decide)).trans ((z_up_k (by decide)).trans ((z_up_k (by decide)).trans (by decide +kernel)))))) ?_
  refine T_if1 (by decide +kernel) ?_
  refine T_bN ?_
  refine T_of (fX12_laysAll.eq_1 ..) ?_
  refine T_if1 (by decide +kernel) ?_
  refine T_bN ?_
  refine T_of (fX12_freshens.eq_1 ..) ?_
  refine T_if1 (by decide +kernel) ?_
  refine T_let 0 ((z_up_k (by decide)).trans ((z_up_k (by decide)).trans ((z_up_k (by decide)).trans ((z_up_k (by decide)).trans ((z_up_k (by decide)).trans (by decide +kernel)))))) ?_
  refine T_if1 (by decide) ?_
  refine T_of (fX12_freshens_L10.eq_2 ..) ?_
  refine T_if1 (by decide +kernel) ?_
  refine T_let 0 ((z_up_k (by decide)).trans ((z_up_k (by decide)).trans ((z_up_k (by decide)).trans ((z_up_k (by decide)).trans ((z_up_k (by decide)).trans (by decide +kernel)))))) ?_
  refine T_if1 (by decide) ?_
  refine T_if1 (by decide +kernel) ?_
  refine T_bN ?_
  refine T_of (fX12_laysPairs.eq_1 ..) ?_
  refine T_if1 (by decide +kernel) ?_
  refine T_up0 ((z_up_k (by decide)).trans ((z_up_k (by decide)).trans ((z_up_k (by decide)).trans ((z_up_k (by decide)).trans ((z_up_k (by decide)).trans (by decide +kernel)))))) ?_
  refine T_if1 (by decide +kernel) ?_
  refine T_up0 ((z_up_k (by decide)).trans ((z_up_k (by decide)).trans ((z_up_k (by decide)).trans ((z_up_k (by decide)).trans ((z_up_k (by decide)).trans (by decide +kernel)))))) ?_
  refine T_of (fX12_laysPairs_L14.eq_2 ..) ?_
  refine T_if1 (by decide +kernel) ?_
  refine T_let 0 ((z_up_k (by decide)).trans ((z_up_k (by decide)).trans ((z_up_k (by decide)).trans ((z_up_k (by decide)).trans ((z_up_k (by decide)).trans (by decide +kernel)))))) ?_
  refine T_if1 (by decide) ?_
  refine T_rN ?_
  refine T_if1 (by decide +kernel) ?_
  refine T_up ?_
  refine T_if1 (by decide +kernel) ?_
  refine T_up0 ((z_up_j (by decide)).trans ((z_up_k (by decide)).trans ((z_up_k (by decide)).trans ((z_up_k (by decide)).trans ((z_up_k (by decide)).trans ((z_up_k (by decide)).trans (by decide +kernel))))))) ?_
  refine T_rN ?_
  refine T_if1 (by decide +kernel) ?_
  refine T_let 0 ((z_up_j (by decide)).trans ((z_up_k (by decide)).trans ((z_up_k (by decide)).trans ((z_up_k (by decide)).trans ((z_up_k (by decide)).trans ((z_up_k (by decide)).trans (by decide +kernel))))))) ?_
  refine T_if1 (by decide) ?_
  refine T_if1 (by decide +kernel) ?_
  refine T_let 312 (by decide +kernel) ?_
  refine T_if1 (by decide +kernel) ?_
  refine T_let 120 ((z_up_k (by decide)).trans ((z_up_k (by decide)).trans ((z_up_k (by decide)).trans ((z_up_k (by decide)).trans ((z_up_k (by decide)).trans ((z_up_k (by decide)).trans (by decide +kernel))))))) ?_
  refine T_if1 (by decide +kernel) ?_
  refine T_let 312 (by decide +kernel) ?_
  refine T_if1 (by decide +kernel) ?_
  refine T_let 0 ((z_up_k (by decide)).trans ((z_up_k (by decide)).trans ((z_up_k (by decide)).trans ((z_up_k (by decide)).trans ((z_up_k (by decide)).trans ((z_up_k (by decide)).trans (by decide +kernel))))))) ?_
  refine T_if1 (by decide +kernel) ?_
  refine T_bI ?_
  refine T_of (fX12_breaks.eq_1 ..) ?_
  refine T_if1 (by decide) ?_
  refine T_of (fX12_breaks_L15.eq_2 ..) ?_
  refine T_if1 (by decide +kernel) ?_
  refine T_let 0 ((z_up_j (by decide)).trans ((z_up_k (by decide)).trans ((z_up_k (by decide)).trans ((z_up_k (by decide)).trans ((z_up_k (by decide)).trans ((z_up_k (by decide)).trans (by decide +kernel))))))) ?_
  refine T_if1 (by decide) ?_
  refine T_if1 (by decide +kernel) ?_
  refine T_let 3438 (by decide +kernel) ?_
  refine T_if1 (by decide +kernel) ?_
  refine T_let 0 ((z_up_j (by decide)).trans ((z_up_k (by decide)).trans ((z_up_k (by decide)).trans ((z_up_k (by decide)).trans ((z_up_k (by decide)).trans ((z_up_k (by decide)).trans (by decide +kernel))))))) ?_
  refine T_if1 (by decide +kernel) ?_
  refine T_up0 ((z_up_k (by decide)).trans ((z_up_k (by decide)).trans ((z_up_k (by decide)).trans ((z_up_k (by decide)).trans ((z_up_k (by decide)).trans ((z_up_k (by decide)).trans (by decide +kernel))))))) ?_
  refine T_rI ?_
  refine T_if1 (by decide +kernel) ?_
  refine T_up0 ((z_up_j (by decide)).trans ((z_up_k (by decide)).trans ((z_up_k (by decide)).trans ((z_up_k (by decide)).trans ((z_up_k (by decide)).trans ((z_up_k (by decide)).trans (by decide +kernel))))))) ?_
  refine T_if1 (by decide +kernel) ?_
  refine T_up0 ((z_up_j (by decide)).trans ((z_up_k (by decide)).trans ((z_up_k (by decide)).trans ((z_up_k (by decide)).trans ((z_up_k (by decide)).trans ((z_up_k (by decide)).trans (by decide +kernel))))))) ?_
  refine T_of (fX12_laysAll_L39.eq_2 ..) ?_
  refine T_if1 (by decide +kernel) ?_
  refine T_let 0 ((z_up_j (by decide)).trans ((z_up_k (by decide)).trans ((z_up_k (by decide)).trans ((z_up_k (by decide)).trans ((z_up_k (by decide)).trans ((z_up_k (by decide)).trans (by decide +kernel))))))) ?_
  refine T_if1 (by decide) ?_
  refine T_if1 (by decide +kernel) ?_
  refine T_up ?_
  refine T_rN ?_
  refine T_of (fX12_moves_L11.eq_2 ..) ?_
  refine T_if1 (by decide +kernel) ?_
  refine T_let 0 ((z_up_j (by decide)).trans ((z_up_j (by decide)).trans ((z_up_k (by decide)).trans ((z_up_k (by decide)).trans ((z_up_k (by decide)).trans ((z_up_k (by decide)).trans ((z_up_k (by decide)).trans (by decide +kernel)))))))) ?_
  refine T_if1 (by decide) ?_
  refine T_if1 (by decide +kernel) ?_
  refine T_bN ?_
  refine T_of (fX12_turnsOver.eq_1 ..) ?_
  refine T_if1 (by decide +kernel) ?_
  refine T_let 312 (by decide +kernel) ?_
  refine T_if1 (by decide +kernel) ?_
  refine T_let 312 (by decide +kernel) ?_
  refine T_if1 (by decide +kernel) ?_
  refine T_let 1 ((z_up_k (by decide)).trans ((z_up_k (by decide)).trans ((z_up_k (by decide)).trans ((z_up_k (by decide)).trans ((z_up_k (by decide)).trans ((z_up_k (by decide)).trans ((z_up_k (by decide)).trans (by decide +kernel)))))))) ?_
  refine T_let 0 (by decide +kernel) ?_
  refine T_if1 (by decide +kernel) ?_
  refine T_up ?_
  refine T_if1 (by decide +kernel) ?_
  refine T_up ?_
  refine T_if1 (by decide +kernel) ?_
  refine T_bN ?_
  refine T_of (fX12_laysAll.eq_1 ..) ?_
  refine T_if1 (by decide +kernel) ?_
  refine T_bN ?_
  refine T_of (fX12_freshens.eq_1 ..) ?_
  refine T_if1 (by decide +kernel) ?_
  refine T_let 0 z_up_s ?_
  refine T_if1 (by decide) ?_
  refine T_of (fX12_freshens_L10.eq_2 ..) ?_
  refine T_if1 (by decide +kernel) ?_
  refine T_let 0 ((z_up_j (by decide)).trans ((z_up_k (by decide)).trans ((z_up_j (by decide)).trans ((z_up_j (by decide)).trans ((z_up_k (by decide)).trans ((z_up_k (by decide)).trans ((z_up_k (by decide)).trans ((z_up_k (by decide)).trans ((z_up_k (by decide)).trans (by decide +kernel)))))))))) ?_
  refine T_if1 (by decide) ?_
  refine T_if1 (by decide +kernel) ?_
  refine T_bN ?_
  refine T_of (fX12_laysPairs.eq_1 ..) ?_
  refine T_if1 (by decide +kernel) ?_
  refine T_up0 ((z_up_j (by decide)).trans ((z_up_k (by decide)).trans ((z_up_j (by decide)).trans ((z_up_j (by decide)).trans ((z_up_k (by decide)).trans ((z_up_k (by decide)).trans ((z_up_k (by decide)).trans ((z_up_k (by decide)).trans ((z_up_k (by decide)).trans (by decide +kernel)))))))))) ?_
  refine T_if1 (by decide +kernel) ?_
  refine T_up0 ((z_up_j (by decide)).trans ((z_up_k (by decide)).trans ((z_up_j (by decide)).trans ((z_up_j (by decide)).trans ((z_up_k (by decide)).trans ((z_up_k (by decide)).trans ((z_up_k (by decide)).trans ((z_up_k (by decide)).trans ((z_up_k (by decide)).trans (by decide +kernel)))))))))) ?_
  refine T_of (fX12_laysPairs_L14.eq_2 ..) ?_
  refine T_if1 (by decide +kernel) ?_
  refine T_let 0 ((z_up_j (by decide)).trans ((z_up_k (by decide)).trans ((z_up_j (by decide)).trans ((z_up_j (by decide)).trans ((z_up_k (by decide)).trans ((z_up_k (by decide)).trans ((z_up_k (by decide)).trans ((z_up_k (by decide)).trans ((z_up_k (by decide)).trans (by decide +kernel)))))))))) ?_
  refine T_if1 (by decide) ?_
  refine T_rN ?_
  refine T_if1 (by decide +kernel) ?_
  refine T_up ?_
  refine T_if1 (by decide +kernel) ?_
  refine T_up ?_
  refine T_rN ?_
  refine T_if1 (by decide +kernel) ?_
  refine T_let 0 z_up_s ?_
  refine T_if1 (by decide) ?_
  refine T_if1 (by decide +kernel) ?_
  refine T_let 312 (by decide +kernel) ?_
  refine T_if1 (by decide +kernel) ?_
  refine T_let 120 ((z_up_k (by decide)).trans ((z_up_k (by decide)).trans ((z_up_k (by decide)).trans ((z_up_j (by decide)).trans ((z_up_k (by decide)).trans ((z_up_k (by decide)).trans ((z_up_k (by decide)).trans ((z_up_k (by decide)).trans ((z_up_k (by decide)).trans ((z_up_k (by decide)).trans ((z_up_k (by decide)).trans (by decide +kernel)))))))))))) ?_
  refine T_if1 (by decide +kernel) ?_
  refine T_let 312 (by decide +kernel) ?_
  refine T_if1 (by decide +kernel) ?_
  refine T_let 0 ((z_up_k (by decide)).trans ((z_up_k (by decide)).trans ((z_up_k (by decide)).trans ((z_up_j (by decide)).trans ((z_up_k (by decide)).trans ((z_up_k (by decide)).trans ((z_up_k (by decide)).trans ((z_up_k (by decide)).trans ((z_up_k (by decide)).trans ((z_up_k (by decide)).trans ((z_up_k (by decide)).trans (by decide +kernel)))))))))))) ?_
  refine T_if1 (by decide +kernel) ?_
  refine T_bI ?_
  refine T_of (fX12_breaks.eq_1 ..) ?_
  refine T_if1 (by decide) ?_
  refine T_of (fX12_breaks_L15.eq_2 ..) ?_
  refine T_if1 (by decide +kernel) ?_
  refine T_let 0 ((z_up_j (by decide)).trans ((z_up_j (by decide)).trans ((z_up_j (by decide)).trans ((z_up_k (by decide)).trans ((z_up_j (by decide)).trans ((z_up_j (by decide)).trans ((z_up_k (by decide)).trans ((z_up_k (by decide)).trans ((z_up_k (by decide)).trans ((z_up_k (by decide)).trans ((z_up_k (by decide)).trans (by decide +kernel)))))))))))) ?_
  refine T_if1 (by decide) ?_
  refine T_if1 (by decide +kernel) ?_
  refine T_let 3438 (by decide +kernel) ?_
  refine T_if1 (by decide +kernel) ?_
  refine T_let 0 ((z_up_j (by decide)).trans ((z_up_j (by decide)).trans ((z_up_j (by decide)).trans ((z_up_k (by decide)).trans ((z_up_j (by decide)).trans ((z_up_j (by decide)).trans ((z_up_k (by decide)).trans ((z_up_k (by decide)).trans ((z_up_k (by decide)).trans ((z_up_k (by decide)).trans ((z_up_k (by decide)).trans (by decide +kernel)))))))))))) ?_
  refine T_if1 (by decide +kernel) ?_
  refine T_up0 ((z_up_k (by decide)).trans ((z_up_k (by decide)).trans ((z_up_k (by decide)).trans ((z_up_k (by decide)).trans ((z_up_k (by decide)).trans ((z_up_k (by decide)).trans ((z_up_k (by decide)).trans ((z_up_k (by decide)).trans ((z_up_k (by decide)).trans ((z_up_k (by decide)).trans ((z_up_k (by decide)).trans (by decide +kernel)))))))))))) ?_
  refine T_rI ?_
  refine T_if1 (by decide +kernel) ?_
  refine T_up0 ((z_up_j (by decide)).trans ((z_up_j (by decide)).trans ((z_up_j (by decide)).trans ((z_up_k (by decide)).trans ((z_up_j (by decide)).trans ((z_up_j (by decide)).trans ((z_up_k (by decide)).trans ((z_up_k (by decide)).trans ((z_up_k (by decide)).trans ((z_up_k (by decide)).trans ((z_up_k (by decide)).trans (by decide +kernel)))))))))))) ?_
  refine T_if1 (by decide +kernel) ?_
  refine T_up0 ((z_up_j (by decide)).trans ((z_up_j (by decide)).trans ((z_up_j (by decide)).trans ((z_up_k (by decide)).trans ((z_up_j (by decide)).trans ((z_up_j (by decide)).trans ((z_up_k (by decide)).trans ((z_up_k (by decide)).trans ((z_up_k (by decide)).trans ((z_up_k (by decide)).trans ((z_up_k (by decide)).trans (by decide +kernel)))))))))))) ?_
  refine T_of (fX12_laysAll_L39.eq_2 ..) ?_
  refine T_if1 (by decide +kernel) ?_
  refine T_let 0 ((z_up_j (by decide)).trans ((z_up_j (by decide)).trans ((z_up_j (by decide)).trans ((z_up_k (by decide)).trans ((z_up_j (by decide)).trans ((z_up_j (by decide)).trans ((z_up_k (by decide)).trans ((z_up_k (by decide)).trans ((z_up_k (by decide)).trans ((z_up_k (by decide)).trans ((z_up_k (by decide)).trans (by decide +kernel)))))))))))) ?_
  refine T_if1 (by decide) ?_
  refine T_if1 (by decide +kernel) ?_
  refine T_up ?_
  refine T_rN ?_
  refine T_rN ?_
  refine T_of (fX12_moves_L45.eq_2 ..) ?_
  refine T_if1 (by decide +kernel) ?_
  refine T_let 0 ((z_up_j (by decide)).trans ((z_up_j (by decide)).trans ((z_up_j (by decide)).trans ((z_up_j (by decide)).trans ((z_up_k (by decide)).trans ((z_up_j (by decide)).trans ((z_up_j (by decide)).trans ((z_up_k (by decide)).trans ((z_up_k (by decide)).trans ((z_up_k (by decide)).trans ((z_up_k (by decide)).trans ((z_up_k (by decide)).trans (by decide +kernel))))))))))))) ?_
  refine T_if1 (by decide) ?_
  refine T_if1 (by decide +kernel) ?_
  refine T_bN ?_
  refine T_of (fX12_turnsOver.eq_1 ..) ?_
  refine T_if1 (by decide +kernel) ?_
  refine T_let 312 (by decide +kernel) ?_
  refine T_if1 (by decide +kernel) ?_
  refine T_let 312 (by decide +kernel) ?_
  refine T_if1 (by decide +kernel) ?_
  refine T_let 0 ((z_up_k (by decide)).trans ((z_up_k (by decide)).trans ((z_up_k (by decide)).trans ((z_up_k (by decide)).trans z_up_s)))) ?_
  refine T_let 1 (by decide +kernel) ?_
  refine T_if1 (by decide +kernel) ?_
  refine T_up ?_
  refine T_if1 (by decide +kernel) ?_
  refine T_up ?_
  refine T_if1 (by decide +kernel) ?_
  refine T_bN ?_
  refine T_of (fX12_laysAll.eq_1 ..) ?_
  refine T_if1 (by decide +kernel) ?_
  refine T_bN ?_
  refine T_of (fX12_freshens.eq_1 ..) ?_
  refine T_if1 (by decide +kernel) ?_
  refine T_let 0 z_up_s ?_
  refine T_if1 (by decide) ?_
  refine T_of (fX12_freshens_L10.eq_2 ..) ?_
  refine T_if1 (by decide +kernel) ?_
  refine T_let 0 ((z_up_j (by decide)).trans ((z_up_k (by decide)).trans ((z_up_j (by decide)).trans ((z_up_j (by decide)).trans ((z_up_j (by decide)).trans ((z_up_j (by decide)).trans ((z_up_k (by decide)).trans ((z_up_j (by decide)).trans ((z_up_j (by decide)).trans ((z_up_k (by decide)).trans ((z_up_k (by decide)).trans ((z_up_k (by decide)).trans ((z_up_k (by decide)).trans ((z_up_k (by decide)).trans (by decide +kernel))))))))))))))) ?_
  refine T_if1 (by decide) ?_
  refine T_if1 (by decide +kernel) ?_
  refine T_bN ?_
  refine T_of (fX12_laysPairs.eq_1 ..) ?_
  refine T_if1 (by decide +kernel) ?_
  refine T_up0 ((z_up_j (by decide)).trans ((z_up_k (by decide)).trans ((z_up_j (by decide)).trans ((z_up_j (by decide)).trans ((z_up_j (by decide)).trans ((z_up_j (by decide)).trans ((z_up_k (by decide)).trans ((z_up_j (by decide)).trans ((z_up_j (by decide)).trans ((z_up_k (by decide)).trans ((z_up_k (by decide)).trans ((z_up_k (by decide)).trans ((z_up_k (by decide)).trans ((z_up_k (by decide)).trans (by decide +kernel))))))))))))))) ?_
  refine T_if1 (by decide +kernel) ?_
  refine T_up0 ((z_up_j (by decide)).trans ((z_up_k (by decide)).trans ((z_up_j (by decide)).trans ((z_up_j (by decide)).trans ((z_up_j (by decide)).trans ((z_up_j (by decide)).trans ((z_up_k (by decide)).trans ((z_up_j (by decide)).trans ((z_up_j (by decide)).trans ((z_up_k (by decide)).trans ((z_up_k (by decide)).trans ((z_up_k (by decide)).trans ((z_up_k (by decide)).trans ((z_up_k (by decide)).trans (by decide +kernel))))))))))))))) ?_
  refine T_of (fX12_laysPairs_L14.eq_2 ..) ?_
  refine T_if1 (by decide +kernel) ?_
  refine T_let 0 ((z_up_j (by decide)).trans ((z_up_k (by decide)).trans ((z_up_j (by decide)).trans ((z_up_j (by decide)).trans ((z_up_j (by decide)).trans ((z_up_j (by decide)).trans ((z_up_k (by decide)).trans ((z_up_j (by decide)).trans ((z_up_j (by decide)).trans ((z_up_k (by decide)).trans ((z_up_k (by decide)).trans ((z_up_k (by decide)).trans ((z_up_k (by decide)).trans ((z_up_k (by decide)).trans (by decide +kernel))))))))))))))) ?_
  refine T_if1 (by decide) ?_
  refine T_rN ?_
  refine T_if1 (by decide +kernel) ?_
  refine T_up ?_
  refine T_if1 (by decide +kernel) ?_
  refine T_up ?_
  refine T_rN ?_
  refine T_if1 (by decide +kernel) ?_
  refine T_let 0 z_up_s ?_
  refine T_if1 (by decide) ?_
  refine T_if1 (by decide +kernel) ?_
  refine T_let 312 (by decide +kernel) ?_
  refine T_if1 (by decide +kernel) ?_
  refine T_let 120 ((z_up_k (by decide)).trans ((z_up_k (by decide)).trans ((z_up_k (by decide)).trans ((z_up_j (by decide)).trans ((z_up_k (by decide)).trans ((z_up_k (by decide)).trans ((z_up_k (by decide)).trans ((z_up_k (by decide)).trans ((z_up_j (by decide)).trans ((z_up_k (by decide)).trans ((z_up_k (by decide)).trans ((z_up_k (by decide)).trans ((z_up_k (by decide)).trans ((z_up_k (by decide)).trans ((z_up_k (by decide)).trans ((z_up_k (by decide)).trans (by decide +kernel))))))))))))))))) ?_
  refine T_if1 (by decide +kernel) ?_
  refine T_let 312 (by decide +kernel) ?_
  refine T_if1 (by decide +kernel) ?_
  refine T_let 0 ((z_up_k (by decide)).trans ((z_up_k (by decide)).trans ((z_up_k (by decide)).trans ((z_up_j (by decide)).trans ((z_up_k (by decide)).trans ((z_up_k (by decide)).trans ((z_up_k (by decide)).trans ((z_up_k (by decide)).trans ((z_up_j (by decide)).trans ((z_up_k (by decide)).trans ((z_up_k (by decide)).trans ((z_up_k (by decide)).trans ((z_up_k (by decide)).trans ((z_up_k (by decide)).trans ((z_up_k (by decide)).trans ((z_up_k (by decide)).trans (by decide +kernel))))))))))))))))) ?_
  refine T_if1 (by decide +kernel) ?_
  refine T_bI ?_
  refine T_of (fX12_breaks.eq_1 ..) ?_
  refine T_if1 (by decide) ?_
  refine T_of (fX12_breaks_L15.eq_2 ..) ?_
  refine T_if1 (by decide +kernel) ?_
  refine T_let 0 ((z_up_j (by decide)).trans ((z_up_j (by decide)).trans ((z_up_j (by decide)).trans ((z_up_k (by decide)).trans ((z_up_j (by decide)).trans ((z_up_j (by decide)).trans ((z_up_j (by decide)).trans ((z_up_j (by decide)).trans ((z_up_k (by decide)).trans ((z_up_j (by decide)).trans ((z_up_j (by decide)).trans ((z_up_k (by decide)).trans ((z_up_k (by decide)).trans ((z_up_k (by decide)).trans ((z_up_k (by decide)).trans ((z_up_k (by decide)).trans (by decide +kernel))))))))))))))))) ?_
  refine T_if1 (by decide) ?_
  refine T_if1 (by decide +kernel) ?_
  refine T_let 3438 (by decide +kernel) ?_
  refine T_if1 (by decide +kernel) ?_
  refine T_let 0 ((z_up_j (by decide)).trans ((z_up_j (by decide)).trans ((z_up_j (by decide)).trans ((z_up_k (by decide)).trans ((z_up_j (by decide)).trans ((z_up_j (by decide)).trans ((z_up_j (by decide)).trans ((z_up_j (by decide)).trans ((z_up_k (by decide)).trans ((z_up_j (by decide)).trans ((z_up_j (by decide)).trans ((z_up_k (by decide)).trans ((z_up_k (by decide)).trans ((z_up_k (by decide)).trans ((z_up_k (by decide)).trans ((z_up_k (by decide)).trans (by decide +kernel))))))))))))))))) ?_
  refine T_if1 (by decide +kernel) ?_
  refine T_up0 ((z_up_k (by decide)).trans ((z_up_k (by decide)).trans ((z_up_k (by decide)).trans ((z_up_k (by decide)).trans ((z_up_k (by decide)).trans ((z_up_k (by decide)).trans ((z_up_k (by decide)).trans ((z_up_k (by decide)).trans ((z_up_k (by decide)).trans ((z_up_k (by decide)).trans ((z_up_k (by decide)).trans ((z_up_k (by decide)).trans ((z_up_k (by decide)).trans ((z_up_k (by decide)).trans ((z_up_k (by decide)).trans ((z_up_k (by decide)).trans (by decide +kernel))))))))))))))))) ?_
  refine T_rI ?_
  refine T_if1 (by decide +kernel) ?_
  refine T_up0 ((z_up_j (by decide)).trans ((z_up_j (by decide)).trans ((z_up_j (by decide)).trans ((z_up_k (by decide)).trans ((z_up_j (by decide)).trans ((z_up_j (by decide)).trans ((z_up_j (by decide)).trans ((z_up_j (by decide)).trans ((z_up_k (by decide)).trans ((z_up_j (by decide)).trans ((z_up_j (by decide)).trans ((z_up_k (by decide)).trans ((z_up_k (by decide)).trans ((z_up_k (by decide)).trans ((z_up_k (by decide)).trans ((z_up_k (by decide)).trans (by decide +kernel))))))))))))))))) ?_
  refine T_if1 (by decide +kernel) ?_
  refine T_up0 ((z_up_j (by decide)).trans ((z_up_j (by decide)).trans ((z_up_j (by decide)).trans ((z_up_k (by decide)).trans ((z_up_j (by decide)).trans ((z_up_j (by decide)).trans ((z_up_j (by decide)).trans ((z_up_j (by decide)).trans ((z_up_k (by decide)).trans ((z_up_j (by decide)).trans ((z_up_j (by decide)).trans ((z_up_k (by decide)).trans ((z_up_k (by decide)).trans ((z_up_k (by decide)).trans ((z_up_k (by decide)).trans ((z_up_k (by decide)).trans (by decide +kernel))))))))))))))))) ?_
  refine T_of (fX12_laysAll_L39.eq_2 ..) ?_
  refine T_if1 (by decide +kernel) ?_
  refine T_let 0 ((z_up_j (by decide)).trans ((z_up_j (by decide)).trans ((z_up_j (by decide)).trans ((z_up_k (by decide)).trans ((z_up_j (by decide)).trans ((z_up_j (by decide)).trans ((z_up_j (by decide)).trans ((z_up_j (by decide)).trans ((z_up_k (by decide)).trans ((z_up_j (by decide)).trans ((z_up_j (by decide)).trans ((z_up_k (by decide)).trans ((z_up_k (by decide)).trans ((z_up_k (by decide)).trans ((z_up_k (by decide)).trans ((z_up_k (by decide)).trans (by decide +kernel))))))))))))))))) ?_
  refine T_if1 (by decide) ?_
  refine T_if1 (by decide +kernel) ?_
  refine T_up ?_
  refine T_rN ?_
  refine T_rN ?_
  refine T_rI ?_
  refine T_if1 (by decide) ?_
  refine T_of (fL_law_J2073.eq_1 ..) ?_
  refine T_let 6 (by decide +kernel) ?_
  exact hr _
