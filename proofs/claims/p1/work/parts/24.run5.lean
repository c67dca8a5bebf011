/-! THE RUNS of one call on a fresh object (by program, wip/tool/mkrun.py) -/
theorem c_1428 {xs : Nat → Int32} {r : z_M → Int → z_O} {k : z_M → z_O} {P : z_V → z_M → Prop} {p1 p2 p3 p4 p5 : Int} (q1 : Int32.toInt (xs 1) = p1) (q2 : Int32.toInt (xs 2) = p2) (q3 : Int32.toInt (xs 3) = p3) (q4 : Int32.toInt (xs 4) = p4) (q5 : Int32.toInt (xs 5) = p5) (hr : ∀ s, z_T (r s 6) P) : z_T (fL_law_J1428 1000 6 xs z_s0 1 309 7658 0 r k) P := by
  refine T_of (fL_law_J1428.eq_1 ..) ?_
  refine T_let 1 (by decide +kernel) ?_
  refine T_if1 (by decide) ?_
  refine T_let p1 q1 ?_
  refine T_bI ?_
  refine T_of (fL_lend.eq_1 ..) ?_
  refine T_if1 (by decide +kernel) ?_
  refine T_cI ?_
  refine T_of (fX11_lend.eq_1 ..) ?_
  refine T_if1 (by decide +kernel) ?_
  refine T_bN ?_
  refine T_of (fX11_needWithin.eq_1 ..) ?_
  refine T_ite (fun h1 => ?_) (fun h1 => ?_)
  · refine T_of (fX11_needWithin_J10.eq_1 ..) ?_
    refine T_if1 (by decide +kernel) ?_
    refine T_let 0 (by decide +kernel) ?_
    refine T_let 1 (by decide +kernel) ?_
    refine T_if1 (by decide +kernel) ?_
    refine T_up ?_
    refine T_xN ?_
    refine T_x1I ?_
    refine T_rI ?_
    refine T_let 1 (by decide +kernel) ?_
    refine T_if1 (by decide) ?_
    refine T_let p1 q1 ?_
    refine T_if1 (by decide +kernel) ?_
    refine T_bI ?_
    refine T_of (fX12_lend.eq_1 ..) ?_
    refine T_if1 (by decide +kernel) ?_
    refine T_up0 ((z_up_k (by decide)).trans (by decide +kernel)) ?_
    refine T_bI ?_
    refine T_of (fX12_in.eq_1 ..) ?_
    refine T_if1 (by omega) ?_
    refine T_of (fX12_in_J14.eq_1 ..) ?_
    refine T_of (fX12_in_J15.eq_1 ..) ?_
    refine T_if1 (by decide) ?_
    refine T_rI ?_
    refine T_if0 (by decide) ?_
    refine T_of (fX12_lend_J20.eq_1 ..) ?_
    refine T_if1 (by decide +kernel) ?_
    refine T_bI ?_
    refine T_of (fX12_bad.eq_1 ..) ?_
    refine T_if0 (by decide) ?_
    refine T_if1 (by decide +kernel) ?_
    refine T_let 0 ((z_up_k (by decide)).trans (by decide +kernel)) ?_
    refine T_if0 (by decide) ?_
    refine T_if1 (by decide +kernel) ?_
    refine T_up ?_
    refine T_if1 (by decide +kernel) ?_
    refine T_let 310 (by decide +kernel) ?_
    refine T_if1 (by decide +kernel) ?_
    refine T_let 0 ((z_up_k (by decide)).trans ((z_up_k (by decide)).trans (by decide +kernel))) ?_
    refine T_let 1 (by decide +kernel) ?_
    refine T_if1 (by decide +kernel) ?_
    refine T_up ?_
    refine T_of (fX12_bad_J26.eq_1 ..) ?_
    refine T_if1 (by decide +kernel) ?_
    refine T_let 1 ((z_up_k (by decide)).trans z_up_s) ?_
    refine T_if0 (by decide) ?_
    refine T_of (fX12_bad_J38.eq_1 ..) ?_
    refine T_if1 (by decide) ?_
    refine T_rI ?_
    refine T_if0 (by decide) ?_
    refine T_rI ?_
    refine T_if1 (by decide +kernel) ?_
    refine T_bI ?_
    refine T_of (fX12_thrown.eq_1 ..) ?_
    refine T_if1 (by decide +kernel) ?_
    refine T_let 1 ((z_up_k (by decide)).trans z_up_s) ?_
    refine T_rI ?_
    refine T_if1 (by decide) ?_
    refine T_if1 (by decide) ?_
    refine T_of (fL_law_J1481.eq_1 ..) ?_
    refine T_of (fL_law_J2073.eq_1 ..) ?_
    refine T_let 6 (by decide +kernel) ?_
    exact hr _
  · refine T_ite (fun h2 => ?_) (fun h2 => ?_)
    · refine T_rN ?_
      refine T_if1 (by decide +kernel) ?_
      refine T_bN ?_
      refine T_of e_refresh ?_
      refine T_rN ?_
      refine T_bI ?_
      refine T_of (fX11_pick.eq_1 ..) ?_
      refine T_if0 (by decide) ?_
      refine T_if1 (by decide +kernel) ?_
      refine T_if0 (by decide) ?_
      refine T_if1 (by decide +kernel) ?_
      refine T_let 0 (by decide +kernel) ?_
      refine T_of (fX11_pick_J17.eq_1 ..) ?_
      refine T_rI ?_
      refine T_if1 (by decide +kernel) ?_
      refine T_let 220 (by decide +kernel) ?_
      refine T_if1 (by decide +kernel) ?_
      refine T_let 191 (by decide +kernel) ?_
      refine T_if1 (by decide +kernel) ?_
      refine T_let 0 ((z_up_k (by decide)).trans ((z_up_k (by decide)).trans (by decide +kernel))) ?_
      refine T_let (-1) (by decide +kernel) ?_
      refine T_if1 (by decide +kernel) ?_
      refine T_bI ?_
      refine T_of (fX5_longWith.eq_1 ..) ?_
      refine T_if1 (by decide +kernel) ?_
      refine T_bN ?_
      refine T_of (fX5_trim.eq_1 ..) ?_
      refine T_if1 (by decide +kernel) ?_
      refine T_up0 ((z_up_k (by decide)).trans ((z_up_k (by decide)).trans (by decide +kernel))) ?_
      refine T_if1 (by decide +kernel) ?_
      refine T_up ?_
      refine T_of (fX5_trim_L10.eq_2 ..) ?_
      refine T_if1 (by decide +kernel) ?_
      refine T_let 0 ((z_up_j (by decide)).trans ((z_up_k (by decide)).trans ((z_up_k (by decide)).trans (by decide +kernel)))) ?_
      refine T_if1 (by decide +kernel) ?_
      refine T_let (-1) z_up_s ?_
      refine T_if1 (by decide) ?_
      refine T_of (fX5_trim_L53.eq_2 ..) ?_
      refine T_if1 (by decide +kernel) ?_
      refine T_let 0 ((z_up_j (by decide)).trans ((z_up_k (by decide)).trans ((z_up_k (by decide)).trans (by decide +kernel)))) ?_
      refine T_if1 (by decide +kernel) ?_
      refine T_let (-1) z_up_s ?_
      refine T_if1 (by decide) ?_
      refine T_of (fX5_trim_J96.eq_1 ..) ?_
      refine T_rN ?_
      refine T_if1 (by decide +kernel) ?_
      refine T_let 191 (by decide +kernel) ?_
      refine T_if1 (by decide +kernel) ?_
      refine T_let 210 (by decide +kernel) ?_
      refine T_if1 (by decide +kernel) ?_
      refine T_let (-1) z_up_s ?_
      refine T_let 0 (by decide +kernel) ?_
      refine T_if1 (by decide +kernel) ?_
      refine T_bI ?_
      refine T_of (fX7_get.eq_1 ..) ?_
      refine T_if0 (by decide) ?_
      refine T_if1 (by decide +kernel) ?_
      refine T_let 211 (by decide +kernel) ?_
      refine T_if1 (by decide +kernel) ?_
      refine T_let 201 (by decide +kernel) ?_
      refine T_if0 (by decide) ?_
      refine T_if1 (by decide +kernel) ?_
      refine T_let 211 (by decide +kernel) ?_
      refine T_if1 (by decide +kernel) ?_
      refine T_let 0 ((z_up_k (by decide)).trans ((z_up_k (by decide)).trans ((z_up_k (by decide)).trans (by decide +kernel)))) ?_
      refine T_of (fX7_get_J23.eq_1 ..) ?_
      refine T_rI ?_
      refine T_if1 (by decide +kernel) ?_
      refine T_let 191 (by decide +kernel) ?_
      refine T_if1 (by decide +kernel) ?_
      refine T_let 210 (by decide +kernel) ?_
      refine T_if1 (by decide +kernel) ?_
      refine T_let 0 ((z_up_j (by decide)).trans ((z_up_k (by decide)).trans ((z_up_k (by decide)).trans (by decide +kernel)))) ?_
      refine T_if1 (by decide +kernel) ?_
      refine T_bI ?_
      refine T_of (fX7_get.eq_1 ..) ?_
      refine T_if0 (by decide) ?_
      refine T_if1 (by decide +kernel) ?_
      refine T_let 211 (by decide +kernel) ?_
      refine T_if1 (by decide +kernel) ?_
      refine T_let 201 (by decide +kernel) ?_
      refine T_if0 (by decide) ?_
      refine T_if1 (by decide +kernel) ?_
      refine T_let 211 (by decide +kernel) ?_
      refine T_if1 (by decide +kernel) ?_
      refine T_let 0 ((z_up_k (by decide)).trans ((z_up_k (by decide)).trans ((z_up_k (by decide)).trans (by decide +kernel)))) ?_
      refine T_of (fX7_get_J23.eq_1 ..) ?_
      refine T_rI ?_
      refine T_let 0 (by decide +kernel) ?_
      refine T_if1 (by decide +kernel) ?_
      refine T_let (-1) z_up_s ?_
      refine T_if1 (by decide +kernel) ?_
      refine T_bI ?_
      refine T_of (fX5_hangsOut.eq_1 ..) ?_
      refine T_if1 (by decide +kernel) ?_
      refine T_let 2 (by decide +kernel) ?_
      refine T_if1 (by decide +kernel) ?_
      refine T_bI ?_
      refine T_of (fX7_get.eq_1 ..) ?_
      refine T_if0 (by decide) ?_
      refine T_if1 (by decide +kernel) ?_
      refine T_let 3 (by decide +kernel) ?_
      refine T_if1 (by decide +kernel) ?_
      refine T_let 9 (by decide +kernel) ?_
      refine T_if0 (by decide) ?_
      refine T_if1 (by decide +kernel) ?_
      refine T_let 3 (by decide +kernel) ?_
      refine T_if1 (by decide +kernel) ?_
      refine T_let 0 ((z_up_k (by decide)).trans ((z_up_k (by decide)).trans ((z_up_k (by decide)).trans (by decide +kernel)))) ?_
      refine T_of (fX7_get_J23.eq_1 ..) ?_
      refine T_rI ?_
      refine T_if1 (by decide) ?_
      refine T_of (fX5_hangsOut_J40.eq_1 ..) ?_
      refine T_of (fX5_hangsOut_J41.eq_1 ..) ?_
      refine T_if1 (by decide) ?_
      refine T_rI ?_
      refine T_if1 (by decide) ?_
      refine T_of (fX5_longWith_J69.eq_1 ..) ?_
      refine T_if1 (by decide +kernel) ?_
      refine T_let 0 ((z_up_j (by decide)).trans ((z_up_k (by decide)).trans ((z_up_k (by decide)).trans (by decide +kernel)))) ?_
      refine T_of (fX5_longWith_L75.eq_2 ..) ?_
      refine T_if1 (by decide +kernel) ?_
      refine T_let (-1) z_up_s ?_
      refine T_if1 (by decide) ?_
      refine T_if1 (by decide +kernel) ?_
      refine T_let 223 (by decide +kernel) ?_
      refine T_if1 (by decide +kernel) ?_
      refine T_bN ?_
      refine T_of (fX0_clear.eq_1 ..) ?_
      refine T_if1 (by decide +kernel) ?_
      refine T_up0 ((z_up_k (by decide)).trans ((z_up_k (by decide)).trans ((z_up_k (by decide)).trans (by decide +kernel)))) ?_
      refine T_rN ?_
      refine T_if1 (by decide +kernel) ?_
      refine T_let 223 (by decide +kernel) ?_
      refine T_if1 (by decide +kernel) ?_
      refine T_let 0 ((z_up_j (by decide)).trans ((z_up_k (by decide)).trans ((z_up_k (by decide)).trans (by decide +kernel)))) ?_
      refine T_if1 (by decide +kernel) ?_
      refine T_let (-1) z_up_s ?_
      refine T_if1 (by decide +kernel) ?_
      refine T_bN ?_
      refine T_of (fX0_gather.eq_1 ..) ?_
      refine T_of (fX0_gather_L2.eq_2 ..) ?_
      refine T_if1 (by decide) ?_
      refine T_rN ?_
      refine T_if1 (by decide +kernel) ?_
      refine T_let 223 (by decide +kernel) ?_
      refine T_if1 (by decide +kernel) ?_
      refine T_let 0 ((z_up_j (by decide)).trans ((z_up_k (by decide)).trans ((z_up_k (by decide)).trans (by decide +kernel)))) ?_
      refine T_if1 (by decide +kernel) ?_
      refine T_let (-1) z_up_s ?_
      refine T_if1 (by decide +kernel) ?_
      refine T_bI ?_
      refine T_of (fX0_hang.eq_1 ..) ?_
      refine T_of (fX0_hang_L9.eq_2 ..) ?_
      refine T_if1 (by decide +kernel) ?_
      refine T_let 0 ((z_up_k (by decide)).trans ((z_up_k (by decide)).trans ((z_up_k (by decide)).trans (by decide +kernel)))) ?_
      refine T_if1 (by decide) ?_
      refine T_rI ?_
      refine T_let 0 (by decide +kernel) ?_
      refine T_rI ?_
      refine T_let 1 (by decide +kernel) ?_
      refine T_of (fX11_lend_L43.eq_2 ..) ?_
      refine T_bI ?_
      refine T_of (fX11_pick.eq_1 ..) ?_
      refine T_if0 (by decide) ?_
      refine T_if1 (by decide +kernel) ?_
      refine T_if0 (by decide) ?_
      refine T_if1 (by decide +kernel) ?_
      refine T_let 6 (by decide +kernel) ?_
      refine T_of (fX11_pick_J17.eq_1 ..) ?_
      refine T_rI ?_
      refine T_if0 (by decide) ?_
      refine T_if1 (by decide +kernel) ?_
      refine T_let 220 (by decide +kernel) ?_
      refine T_if1 (by decide +kernel) ?_
      refine T_let 191 (by decide +kernel) ?_
      refine T_if1 (by decide +kernel) ?_
      refine T_let 0 ((z_up_k (by decide)).trans ((z_up_k (by decide)).trans ((z_up_k (by decide)).trans (by decide +kernel)))) ?_
      refine T_let (-1) (by decide +kernel) ?_
      refine T_if1 (by decide +kernel) ?_
      refine T_bI ?_
      refine T_of (fX5_longWith.eq_1 ..) ?_
      refine T_if1 (by decide +kernel) ?_
      refine T_bN ?_
      refine T_of (fX5_trim.eq_1 ..) ?_
      refine T_if1 (by decide +kernel) ?_
      refine T_up0 ((z_up_j (by decide)).trans ((z_up_k (by decide)).trans ((z_up_k (by decide)).trans (by decide +kernel)))) ?_
      refine T_if1 (by decide +kernel) ?_
      refine T_up0 z_up_s ?_
      refine T_of (fX5_trim_L10.eq_2 ..) ?_
      refine T_if1 (by decide +kernel) ?_
      refine T_let 0 ((z_up_j (by decide)).trans ((z_up_k (by decide)).trans ((z_up_k (by decide)).trans (by decide +kernel)))) ?_
      refine T_if1 (by decide +kernel) ?_
      refine T_let (-1) z_up_s ?_
      refine T_if1 (by decide) ?_
      refine T_of (fX5_trim_L53.eq_2 ..) ?_
      refine T_if1 (by decide +kernel) ?_
      refine T_let 0 ((z_up_j (by decide)).trans ((z_up_k (by decide)).trans ((z_up_k (by decide)).trans (by decide +kernel)))) ?_
      refine T_if1 (by decide +kernel) ?_
      refine T_let (-1) z_up_s ?_
      refine T_if1 (by decide) ?_
      refine T_of (fX5_trim_J96.eq_1 ..) ?_
      refine T_rN ?_
      refine T_if1 (by decide +kernel) ?_
      refine T_let 191 (by decide +kernel) ?_
      refine T_if1 (by decide +kernel) ?_
      refine T_let 210 (by decide +kernel) ?_
      refine T_if1 (by decide +kernel) ?_
      refine T_let (-1) z_up_s ?_
      refine T_let 0 (by decide +kernel) ?_
      refine T_if1 (by decide +kernel) ?_
      refine T_bI ?_
      refine T_of (fX7_get.eq_1 ..) ?_
      refine T_if0 (by decide) ?_
      refine T_if1 (by decide +kernel) ?_
      refine T_let 211 (by decide +kernel) ?_
      refine T_if1 (by decide +kernel) ?_
      refine T_let 201 (by decide +kernel) ?_
      refine T_if0 (by decide) ?_
      refine T_if1 (by decide +kernel) ?_
      refine T_let 211 (by decide +kernel) ?_
      refine T_if1 (by decide +kernel) ?_
      refine T_let 0 ((z_up_k (by decide)).trans ((z_up_k (by decide)).trans ((z_up_k (by decide)).trans (by decide +kernel)))) ?_
      refine T_of (fX7_get_J23.eq_1 ..) ?_
      refine T_rI ?_
      refine T_if1 (by decide +kernel) ?_
      refine T_let 191 (by decide +kernel) ?_
      refine T_if1 (by decide +kernel) ?_
      refine T_let 210 (by decide +kernel) ?_
      refine T_if1 (by decide +kernel) ?_
      refine T_let 0 ((z_up_j (by decide)).trans ((z_up_k (by decide)).trans ((z_up_k (by decide)).trans (by decide +kernel)))) ?_
      refine T_if1 (by decide +kernel) ?_
      refine T_bI ?_
      refine T_of (fX7_get.eq_1 ..) ?_
      refine T_if0 (by decide) ?_
      refine T_if1 (by decide +kernel) ?_
      refine T_let 211 (by decide +kernel) ?_
      refine T_if1 (by decide +kernel) ?_
      refine T_let 201 (by decide +kernel) ?_
      refine T_if0 (by decide) ?_
      refine T_if1 (by decide +kernel) ?_
      refine T_let 211 (by decide +kernel) ?_
      refine T_if1 (by decide +kernel) ?_
      refine T_let 0 ((z_up_k (by decide)).trans ((z_up_k (by decide)).trans ((z_up_k (by decide)).trans (by decide +kernel)))) ?_
      refine T_of (fX7_get_J23.eq_1 ..) ?_
      refine T_rI ?_
      refine T_let 0 (by decide +kernel) ?_
      refine T_if1 (by decide +kernel) ?_
      refine T_let (-1) z_up_s ?_
      refine T_if1 (by decide +kernel) ?_
      refine T_bI ?_
      refine T_of (fX5_hangsOut.eq_1 ..) ?_
      refine T_if1 (by decide +kernel) ?_
      refine T_let 2 (by decide +kernel) ?_
      refine T_if1 (by decide +kernel) ?_
      refine T_bI ?_
      refine T_of (fX7_get.eq_1 ..) ?_
      refine T_if0 (by decide) ?_
      refine T_if1 (by decide +kernel) ?_
      refine T_let 3 (by decide +kernel) ?_
      refine T_if1 (by decide +kernel) ?_
      refine T_let 9 (by decide +kernel) ?_
      refine T_if0 (by decide) ?_
      refine T_if1 (by decide +kernel) ?_
      refine T_let 3 (by decide +kernel) ?_
      refine T_if1 (by decide +kernel) ?_
      refine T_let 0 ((z_up_k (by decide)).trans ((z_up_k (by decide)).trans ((z_up_k (by decide)).trans (by decide +kernel)))) ?_
      refine T_of (fX7_get_J23.eq_1 ..) ?_
      refine T_rI ?_
      refine T_if1 (by decide) ?_
      refine T_of (fX5_hangsOut_J40.eq_1 ..) ?_
      refine T_of (fX5_hangsOut_J41.eq_1 ..) ?_
      refine T_if1 (by decide) ?_
      refine T_rI ?_
      refine T_if1 (by decide) ?_
      refine T_of (fX5_longWith_J69.eq_1 ..) ?_
      refine T_if1 (by decide +kernel) ?_
      refine T_let 0 ((z_up_j (by decide)).trans ((z_up_k (by decide)).trans ((z_up_k (by decide)).trans (by decide +kernel)))) ?_
      refine T_of (fX5_longWith_L75.eq_2 ..) ?_
      refine T_if1 (by decide +kernel) ?_
      refine T_let (-1) z_up_s ?_
      refine T_if1 (by decide) ?_
      refine T_if1 (by decide +kernel) ?_
      refine T_let 223 (by decide +kernel) ?_
      refine T_if1 (by decide +kernel) ?_
      refine T_bN ?_
      refine T_of (fX0_clear.eq_1 ..) ?_
      refine T_if1 (by decide +kernel) ?_
      refine T_up0 ((z_up_k (by decide)).trans ((z_up_k (by decide)).trans ((z_up_k (by decide)).trans (by decide +kernel)))) ?_
      refine T_rN ?_
      refine T_if1 (by decide +kernel) ?_
      refine T_let 223 (by decide +kernel) ?_
      refine T_if1 (by decide +kernel) ?_
      refine T_let 0 ((z_up_j (by decide)).trans ((z_up_k (by decide)).trans ((z_up_k (by decide)).trans (by decide +kernel)))) ?_
      refine T_if1 (by decide +kernel) ?_
      refine T_let (-1) z_up_s ?_
      refine T_if1 (by decide +kernel) ?_
      refine T_bN ?_
      refine T_of (fX0_gather.eq_1 ..) ?_
      refine T_of (fX0_gather_L2.eq_2 ..) ?_
      refine T_if1 (by decide) ?_
      refine T_rN ?_
      refine T_if1 (by decide +kernel) ?_
      refine T_let 223 (by decide +kernel) ?_
      refine T_if1 (by decide +kernel) ?_
      refine T_let 0 ((z_up_j (by decide)).trans ((z_up_k (by decide)).trans ((z_up_k (by decide)).trans (by decide +kernel)))) ?_
      refine T_if1 (by decide +kernel) ?_
      refine T_let (-1) z_up_s ?_
      refine T_if1 (by decide +kernel) ?_
      refine T_bI ?_
      refine T_of (fX0_hang.eq_1 ..) ?_
      refine T_of (fX0_hang_L9.eq_2 ..) ?_
      refine T_if1 (by decide +kernel) ?_
      refine T_let 0 ((z_up_k (by decide)).trans ((z_up_k (by decide)).trans ((z_up_k (by decide)).trans (by decide +kernel)))) ?_
      refine T_if1 (by decide) ?_
      refine T_rI ?_
      refine T_let 0 (by decide +kernel) ?_
      refine T_rI ?_
      refine T_if1 (by decide) ?_
      refine T_of (fX11_lend_J88.eq_1 ..) ?_
      refine T_let 2 (by decide +kernel) ?_
      refine T_of (fX11_lend_L43.eq_2 ..) ?_
      refine T_bI ?_
      refine T_of (fX11_pick.eq_1 ..) ?_
      refine T_if0 (by decide) ?_
      refine T_if1 (by decide +kernel) ?_
      refine T_if0 (by decide) ?_
      refine T_if1 (by decide +kernel) ?_
      refine T_let 6 (by decide +kernel) ?_
      refine T_of (fX11_pick_J17.eq_1 ..) ?_
      refine T_rI ?_
      refine T_if0 (by decide) ?_
      refine T_if1 (by decide +kernel) ?_
      refine T_let 220 (by decide +kernel) ?_
      refine T_if1 (by decide +kernel) ?_
      refine T_let 191 (by decide +kernel) ?_
      refine T_if1 (by decide +kernel) ?_
      refine T_let 0 ((z_up_k (by decide)).trans ((z_up_k (by decide)).trans ((z_up_k (by decide)).trans (by decide +kernel)))) ?_
      refine T_let (-1) (by decide +kernel) ?_
      refine T_if1 (by decide +kernel) ?_
      refine T_bI ?_
      refine T_of (fX5_longWith.eq_1 ..) ?_
      refine T_if1 (by decide +kernel) ?_
      refine T_bN ?_
      refine T_of (fX5_trim.eq_1 ..) ?_
      refine T_if1 (by decide +kernel) ?_
      refine T_up0 ((z_up_j (by decide)).trans ((z_up_k (by decide)).trans ((z_up_k (by decide)).trans (by decide +kernel)))) ?_
      refine T_if1 (by decide +kernel) ?_
      refine T_up0 z_up_s ?_
      refine T_of (fX5_trim_L10.eq_2 ..) ?_
      refine T_if1 (by decide +kernel) ?_
      refine T_let 0 ((z_up_j (by decide)).trans ((z_up_k (by decide)).trans ((z_up_k (by decide)).trans (by decide +kernel)))) ?_
      refine T_if1 (by decide +kernel) ?_
      refine T_let (-1) z_up_s ?_
      refine T_if1 (by decide) ?_
      refine T_of (fX5_trim_L53.eq_2 ..) ?_
      refine T_if1 (by decide +kernel) ?_
      refine T_let 0 ((z_up_j (by decide)).trans ((z_up_k (by decide)).trans ((z_up_k (by decide)).trans (by decide +kernel)))) ?_
      refine T_if1 (by decide +kernel) ?_
      refine T_let (-1) z_up_s ?_
      refine T_if1 (by decide) ?_
      refine T_of (fX5_trim_J96.eq_1 ..) ?_
      refine T_rN ?_
      refine T_if1 (by decide +kernel) ?_
      refine T_let 191 (by decide +kernel) ?_
      refine T_if1 (by decide +kernel) ?_
      refine T_let 210 (by decide +kernel) ?_
      refine T_if1 (by decide +kernel) ?_
      refine T_let (-1) z_up_s ?_
      refine T_let 0 (by decide +kernel) ?_
      refine T_if1 (by decide +kernel) ?_
      refine T_bI ?_
      refine T_of (fX7_get.eq_1 ..) ?_
      refine T_if0 (by decide) ?_
      refine T_if1 (by decide +kernel) ?_
      refine T_let 211 (by decide +kernel) ?_
      refine T_if1 (by decide +kernel) ?_
      refine T_let 201 (by decide +kernel) ?_
      refine T_if0 (by decide) ?_
      refine T_if1 (by decide +kernel) ?_
      refine T_let 211 (by decide +kernel) ?_
      refine T_if1 (by decide +kernel) ?_
      refine T_let 0 ((z_up_k (by decide)).trans ((z_up_k (by decide)).trans ((z_up_k (by decide)).trans (by decide +kernel)))) ?_
      refine T_of (fX7_get_J23.eq_1 ..) ?_
      refine T_rI ?_
      refine T_if1 (by decide +kernel) ?_
      refine T_let 191 (by decide +kernel) ?_
      refine T_if1 (by decide +kernel) ?_
      refine T_let 210 (by decide +kernel) ?_
      refine T_if1 (by decide +kernel) ?_
      refine T_let 0 ((z_up_j (by decide)).trans ((z_up_k (by decide)).trans ((z_up_k (by decide)).trans (by decide +kernel)))) ?_
      refine T_if1 (by decide +kernel) ?_
      refine T_bI ?_
      refine T_of (fX7_get.eq_1 ..) ?_
      refine T_if0 (by decide) ?_
      refine T_if1 (by decide +kernel) ?_
      refine T_let 211 (by decide +kernel) ?_
      refine T_if1 (by decide +kernel) ?_
      refine T_let 201 (by decide +kernel) ?_
      refine T_if0 (by decide) ?_
      refine T_if1 (by decide +kernel) ?_
      refine T_let 211 (by decide +kernel) ?_
      refine T_if1 (by decide +kernel) ?_
      refine T_let 0 ((z_up_k (by decide)).trans ((z_up_k (by decide)).trans ((z_up_k (by decide)).trans (by decide +kernel)))) ?_
      refine T_of (fX7_get_J23.eq_1 ..) ?_
      refine T_rI ?_
      refine T_let 0 (by decide +kernel) ?_
      refine T_if1 (by decide +kernel) ?_
      refine T_let (-1) z_up_s ?_
      refine T_if1 (by decide +kernel) ?_
      refine T_bI ?_
      refine T_of (fX5_hangsOut.eq_1 ..) ?_
      refine T_if1 (by decide +kernel) ?_
      refine T_let 2 (by decide +kernel) ?_
      refine T_if1 (by decide +kernel) ?_
      refine T_bI ?_
      refine T_of (fX7_get.eq_1 ..) ?_
      refine T_if0 (by decide) ?_
      refine T_if1 (by decide +kernel) ?_
      refine T_let 3 (by decide +kernel) ?_
      refine T_if1 (by decide +kernel) ?_
      refine T_let 9 (by decide +kernel) ?_
      refine T_if0 (by decide) ?_
      refine T_if1 (by decide +kernel) ?_
      refine T_let 3 (by decide +kernel) ?_
      refine T_if1 (by decide +kernel) ?_
      refine T_let 0 ((z_up_k (by decide)).trans ((z_up_k (by decide)).trans ((z_up_k (by decide)).trans (by decide +kernel)))) ?_
      refine T_of (fX7_get_J23.eq_1 ..) ?_
      refine T_rI ?_
      refine T_if1 (by decide) ?_
      refine T_of (fX5_hangsOut_J40.eq_1 ..) ?_
      refine T_of (fX5_hangsOut_J41.eq_1 ..) ?_
      refine T_if1 (by decide) ?_
      refine T_rI ?_
      refine T_if1 (by decide) ?_
      refine T_of (fX5_longWith_J69.eq_1 ..) ?_
      refine T_if1 (by decide +kernel) ?_
      refine T_let 0 ((z_up_j (by decide)).trans ((z_up_k (by decide)).trans ((z_up_k (by decide)).trans (by decide +kernel)))) ?_
      refine T_of (fX5_longWith_L75.eq_2 ..) ?_
      refine T_if1 (by decide +kernel) ?_
      refine T_let (-1) z_up_s ?_
      refine T_if1 (by decide) ?_
      refine T_if1 (by decide +kernel) ?_
      refine T_let 223 (by decide +kernel) ?_
      refine T_if1 (by decide +kernel) ?_
      refine T_bN ?_
      refine T_of (fX0_clear.eq_1 ..) ?_
      refine T_if1 (by decide +kernel) ?_
      refine T_up0 ((z_up_k (by decide)).trans ((z_up_k (by decide)).trans ((z_up_k (by decide)).trans (by decide +kernel)))) ?_
      refine T_rN ?_
      refine T_if1 (by decide +kernel) ?_
      refine T_let 223 (by decide +kernel) ?_
      refine T_if1 (by decide +kernel) ?_
      refine T_let 0 ((z_up_j (by decide)).trans ((z_up_k (by decide)).trans ((z_up_k (by decide)).trans (by decide +kernel)))) ?_
      refine T_if1 (by decide +kernel) ?_
      refine T_let (-1) z_up_s ?_
      refine T_if1 (by decide +kernel) ?_
      refine T_bN ?_
      refine T_of (fX0_gather.eq_1 ..) ?_
      refine T_of (fX0_gather_L2.eq_2 ..) ?_
      refine T_if1 (by decide) ?_
      refine T_rN ?_
      refine T_if1 (by decide +kernel) ?_
      refine T_let 223 (by decide +kernel) ?_
      refine T_if1 (by decide +kernel) ?_
      refine T_let 0 ((z_up_j (by decide)).trans ((z_up_k (by decide)).trans ((z_up_k (by decide)).trans (by decide +kernel)))) ?_
      refine T_if1 (by decide +kernel) ?_
      refine T_let (-1) z_up_s ?_
      refine T_if1 (by decide +kernel) ?_
      refine T_bI ?_
      refine T_of (fX0_hang.eq_1 ..) ?_
      refine T_of (fX0_hang_L9.eq_2 ..) ?_
      refine T_if1 (by decide +kernel) ?_
      refine T_let 0 ((z_up_k (by decide)).trans ((z_up_k (by decide)).trans ((z_up_k (by decide)).trans (by decide +kernel)))) ?_
      refine T_if1 (by decide) ?_
      refine T_rI ?_
      refine T_let 0 (by decide +kernel) ?_
      refine T_rI ?_
      refine T_if1 (by decide) ?_
      refine T_of (fX11_lend_J88.eq_1 ..) ?_
      refine T_let 3 (by decide +kernel) ?_
      refine T_of (fX11_lend_L43.eq_2 ..) ?_
      refine T_bI ?_
      refine T_of (fX11_pick.eq_1 ..) ?_
      refine T_if0 (by decide) ?_
      refine T_if1 (by decide +kernel) ?_
      refine T_if0 (by decide) ?_
      refine T_if1 (by decide +kernel) ?_
      refine T_let 6 (by decide +kernel) ?_
      refine T_of (fX11_pick_J17.eq_1 ..) ?_
      refine T_rI ?_
      refine T_if0 (by decide) ?_
      refine T_if1 (by decide +kernel) ?_
      refine T_let 220 (by decide +kernel) ?_
      refine T_if1 (by decide +kernel) ?_
      refine T_let 191 (by decide +kernel) ?_
      refine T_if1 (by decide +kernel) ?_
      refine T_let 0 ((z_up_k (by decide)).trans ((z_up_k (by decide)).trans ((z_up_k (by decide)).trans (by decide +kernel)))) ?_
      refine T_let (-1) (by decide +kernel) ?_
      refine T_if1 (by decide +kernel) ?_
      refine T_bI ?_
      refine T_of (fX5_longWith.eq_1 ..) ?_
      refine T_if1 (by decide +kernel) ?_
      refine T_bN ?_
      refine T_of (fX5_trim.eq_1 ..) ?_
      refine T_if1 (by decide +kernel) ?_
      refine T_up0 ((z_up_j (by decide)).trans ((z_up_k (by decide)).trans ((z_up_k (by decide)).trans (by decide +kernel)))) ?_
      refine T_if1 (by decide +kernel) ?_
      refine T_up0 z_up_s ?_
      refine T_of (fX5_trim_L10.eq_2 ..) ?_
      refine T_if1 (by decide +kernel) ?_
      refine T_let 0 ((z_up_j (by decide)).trans ((z_up_k (by decide)).trans ((z_up_k (by decide)).trans (by decide +kernel)))) ?_
      refine T_if1 (by decide +kernel) ?_
      refine T_let (-1) z_up_s ?_
      refine T_if1 (by decide) ?_
      refine T_of (fX5_trim_L53.eq_2 ..) ?_
      refine T_if1 (by decide +kernel) ?_
      refine T_let 0 ((z_up_j (by decide)).trans ((z_up_k (by decide)).trans ((z_up_k (by decide)).trans (by decide +kernel)))) ?_
      refine T_if1 (by decide +kernel) ?_
      refine T_let (-1) z_up_s ?_
      refine T_if1 (by decide) ?_
      refine T_of (fX5_trim_J96.eq_1 ..) ?_
      refine T_rN ?_
      refine T_if1 (by decide +kernel) ?_
      refine T_let 191 (by decide +kernel) ?_
      refine T_if1 (by decide +kernel) ?_
      refine T_let 210 (by decide +kernel) ?_
      refine T_if1 (by decide +kernel) ?_
      refine T_let (-1) z_up_s ?_
      refine T_let 0 (by decide +kernel) ?_
      refine T_if1 (by decide +kernel) ?_
      refine T_bI ?_
      refine T_of (fX7_get.eq_1 ..) ?_
      refine T_if0 (by decide) ?_
      refine T_if1 (by decide +kernel) ?_
      refine T_let 211 (by decide +kernel) ?_
      refine T_if1 (by decide +kernel) ?_
      refine T_let 201 (by decide +kernel) ?_
      refine T_if0 (by decide) ?_
      refine T_if1 (by decide +kernel) ?_
      refine T_let 211 (by decide +kernel) ?_
      refine T_if1 (by decide +kernel) ?_
      refine T_let 0 ((z_up_k (by decide)).trans ((z_up_k (by decide)).trans ((z_up_k (by decide)).trans (by decide +kernel)))) ?_
      refine T_of (fX7_get_J23.eq_1 ..) ?_
      refine T_rI ?_
      refine T_if1 (by decide +kernel) ?_
      refine T_let 191 (by decide +kernel) ?_
      refine T_if1 (by decide +kernel) ?_
      refine T_let 210 (by decide +kernel) ?_
      refine T_if1 (by decide +kernel) ?_
      refine T_let 0 ((z_up_j (by decide)).trans ((z_up_k (by decide)).trans ((z_up_k (by decide)).trans (by decide +kernel)))) ?_
      refine T_if1 (by decide +kernel) ?_
      refine T_bI ?_
      refine T_of (fX7_get.eq_1 ..) ?_
      refine T_if0 (by decide) ?_
      refine T_if1 (by decide +kernel) ?_
      refine T_let 211 (by decide +kernel) ?_
      refine T_if1 (by decide +kernel) ?_
      refine T_let 201 (by decide +kernel) ?_
      refine T_if0 (by decide) ?_
      refine T_if1 (by decide +kernel) ?_
      refine T_let 211 (by decide +kernel) ?_
      refine T_if1 (by decide +kernel) ?_
      refine T_let 0 ((z_up_k (by decide)).trans ((z_up_k (by decide)).trans ((z_up_k (by decide)).trans (by decide +kernel)))) ?_
      refine T_of (fX7_get_J23.eq_1 ..) ?_
      refine T_rI ?_
      refine T_let 0 (by decide +kernel) ?_
      refine T_if1 (by decide +kernel) ?_
      refine T_let (-1) z_up_s ?_
      refine T_if1 (by decide +kernel) ?_
      refine T_bI ?_
      refine T_of (fX5_hangsOut.eq_1 ..) ?_
      refine T_if1 (by decide +kernel) ?_
      refine T_let 2 (by decide +kernel) ?_
      refine T_if1 (by decide +kernel) ?_
      refine T_bI ?_
      refine T_of (fX7_get.eq_1 ..) ?_
      refine T_if0 (by decide) ?_
      refine T_if1 (by decide +kernel) ?_
      refine T_let 3 (by decide +kernel) ?_
      refine T_if1 (by decide +kernel) ?_
      refine T_let 9 (by decide +kernel) ?_
      refine T_if0 (by decide) ?_
      refine T_if1 (by decide +kernel) ?_
      refine T_let 3 (by decide +kernel) ?_
      refine T_if1 (by decide +kernel) ?_
      refine T_let 0 ((z_up_k (by decide)).trans ((z_up_k (by decide)).trans ((z_up_k (by decide)).trans (by decide +kernel)))) ?_
      refine T_of (fX7_get_J23.eq_1 ..) ?_
      refine T_rI ?_
      refine T_if1 (by decide) ?_
      refine T_of (fX5_hangsOut_J40.eq_1 ..) ?_
      refine T_of (fX5_hangsOut_J41.eq_1 ..) ?_
      refine T_if1 (by decide) ?_
      refine T_rI ?_
      refine T_if1 (by decide) ?_
      refine T_of (fX5_longWith_J69.eq_1 ..) ?_
      refine T_if1 (by decide +kernel) ?_
      refine T_let 0 ((z_up_j (by decide)).trans ((z_up_k (by decide)).trans ((z_up_k (by decide)).trans (by decide +kernel)))) ?_
      refine T_of (fX5_longWith_L75.eq_2 ..) ?_
      refine T_if1 (by decide +kernel) ?_
      refine T_let (-1) z_up_s ?_
      refine T_if1 (by decide) ?_
      refine T_if1 (by decide +kernel) ?_
      refine T_let 223 (by decide +kernel) ?_
      refine T_if1 (by decide +kernel) ?_
      refine T_bN ?_
      refine T_of (fX0_clear.eq_1 ..) ?_
      refine T_if1 (by decide +kernel) ?_
      refine T_up0 ((z_up_k (by decide)).trans ((z_up_k (by decide)).trans ((z_up_k (by decide)).trans (by decide +kernel)))) ?_
      refine T_rN ?_
      refine T_if1 (by decide +kernel) ?_
      refine T_let 223 (by decide +kernel) ?_
      refine T_if1 (by decide +kernel) ?_
      refine T_let 0 ((z_up_j (by decide)).trans ((z_up_k (by decide)).trans ((z_up_k (by decide)).trans (by decide +kernel)))) ?_
      refine T_if1 (by decide +kernel) ?_
      refine T_let (-1) z_up_s ?_
      refine T_if1 (by decide +kernel) ?_
      refine T_bN ?_
      refine T_of (fX0_gather.eq_1 ..) ?_
      refine T_of (fX0_gather_L2.eq_2 ..) ?_
      refine T_if1 (by decide) ?_
      refine T_rN ?_
      refine T_if1 (by decide +kernel) ?_
      refine T_let 223 (by decide +kernel) ?_
      refine T_if1 (by decide +kernel) ?_
      refine T_let 0 ((z_up_j (by decide)).trans ((z_up_k (by decide)).trans ((z_up_k (by decide)).trans (by decide +kernel)))) ?_
      refine T_if1 (by decide +kernel) ?_
      refine T_let (-1) z_up_s ?_
      refine T_if1 (by decide +kernel) ?_
      refine T_bI ?_
      refine T_of (fX0_hang.eq_1 ..) ?_
      refine T_of (fX0_hang_L9.eq_2 ..) ?_
      refine T_if1 (by decide +kernel) ?_
      refine T_let 0 ((z_up_k (by decide)).trans ((z_up_k (by decide)).trans ((z_up_k (by decide)).trans (by decide +kernel)))) ?_
      refine T_if1 (by decide) ?_
      refine T_rI ?_
      refine T_let 0 (by decide +kernel) ?_
      refine T_rI ?_
      refine T_if1 (by decide) ?_
      refine T_of (fX11_lend_J88.eq_1 ..) ?_
      refine T_let 4 (by decide +kernel) ?_
      refine T_of (fX11_lend_L43.eq_2 ..) ?_
      refine T_bI ?_
      refine T_of (fX11_pick.eq_1 ..) ?_
      refine T_if0 (by decide) ?_
      refine T_if1 (by decide +kernel) ?_
      refine T_if0 (by decide) ?_
      refine T_if1 (by decide +kernel) ?_
      refine T_let 6 (by decide +kernel) ?_
      refine T_of (fX11_pick_J17.eq_1 ..) ?_
      refine T_rI ?_
      refine T_if0 (by decide) ?_
      refine T_if1 (by decide +kernel) ?_
      refine T_let 220 (by decide +kernel) ?_
      refine T_if1 (by decide +kernel) ?_
      refine T_let 191 (by decide +kernel) ?_
      refine T_if1 (by decide +kernel) ?_
      refine T_let 0 ((z_up_k (by decide)).trans ((z_up_k (by decide)).trans ((z_up_k (by decide)).trans (by decide +kernel)))) ?_
      refine T_let (-1) (by decide +kernel) ?_
      refine T_if1 (by decide +kernel) ?_
      refine T_bI ?_
      refine T_of (fX5_longWith.eq_1 ..) ?_
      refine T_if1 (by decide +kernel) ?_
      refine T_bN ?_
      refine T_of (fX5_trim.eq_1 ..) ?_
      refine T_if1 (by decide +kernel) ?_
      refine T_up0 ((z_up_j (by decide)).trans ((z_up_k (by decide)).trans ((z_up_k (by decide)).trans (by decide +kernel)))) ?_
      refine T_if1 (by decide +kernel) ?_
      refine T_up0 z_up_s ?_
      refine T_of (fX5_trim_L10.eq_2 ..) ?_
      refine T_if1 (by decide +kernel) ?_
      refine T_let 0 ((z_up_j (by decide)).trans ((z_up_k (by decide)).trans ((z_up_k (by decide)).trans (by decide +kernel)))) ?_
      refine T_if1 (by decide +kernel) ?_
      refine T_let (-1) z_up_s ?_
      refine T_if1 (by decide) ?_
      refine T_of (fX5_trim_L53.eq_2 ..) ?_
      refine T_if1 (by decide +kernel) ?_
      refine T_let 0 ((z_up_j (by decide)).trans ((z_up_k (by decide)).trans ((z_up_k (by decide)).trans (by decide +kernel)))) ?_
      refine T_if1 (by decide +kernel) ?_
      refine T_let (-1) z_up_s ?_
      refine T_if1 (by decide) ?_
      refine T_of (fX5_trim_J96.eq_1 ..) ?_
      refine T_rN ?_
      refine T_if1 (by decide +kernel) ?_
      refine T_let 191 (by decide +kernel) ?_
      refine T_if1 (by decide +kernel) ?_
      refine T_let 210 (by decide +kernel) ?_
      refine T_if1 (by decide +kernel) ?_
      refine T_let (-1) z_up_s ?_
      refine T_let 0 (by decide +kernel) ?_
      refine T_if1 (by decide +kernel) ?_
      refine T_bI ?_
      refine T_of (fX7_get.eq_1 ..) ?_
      refine T_if0 (by decide) ?_
      refine T_if1 (by decide +kernel) ?_
      refine T_let 211 (by decide +kernel) ?_
      refine T_if1 (by decide +kernel) ?_
      refine T_let 201 (by decide +kernel) ?_
      refine T_if0 (by decide) ?_
      refine T_if1 (by decide +kernel) ?_
      refine T_let 211 (by decide +kernel) ?_
      refine T_if1 (by decide +kernel) ?_
      refine T_let 0 ((z_up_k (by decide)).trans ((z_up_k (by decide)).trans ((z_up_k (by decide)).trans (by decide +kernel)))) ?_
      refine T_of (fX7_get_J23.eq_1 ..) ?_
      refine T_rI ?_
      refine T_if1 (by decide +kernel) ?_
      refine T_let 191 (by decide +kernel) ?_
      refine T_if1 (by decide +kernel) ?_
      refine T_let 210 (by decide +kernel) ?_
      refine T_if1 (by decide +kernel) ?_
      refine T_let 0 ((z_up_j (by decide)).trans ((z_up_k (by decide)).trans ((z_up_k (by decide)).trans (by decide +kernel)))) ?_
      refine T_if1 (by decide +kernel) ?_
      refine T_bI ?_
      refine T_of (fX7_get.eq_1 ..) ?_
      refine T_if0 (by decide) ?_
      refine T_if1 (by decide +kernel) ?_
      refine T_let 211 (by decide +kernel) ?_
      refine T_if1 (by decide +kernel) ?_
      refine T_let 201 (by decide +kernel) ?_
      refine T_if0 (by decide) ?_
      refine T_if1 (by decide +kernel) ?_
      refine T_let 211 (by decide +kernel) ?_
      refine T_if1 (by decide +kernel) ?_
      refine T_let 0 ((z_up_k (by decide)).trans ((z_up_k (by decide)).trans ((z_up_k (by decide)).trans (by decide +kernel)))) ?_
      refine T_of (fX7_get_J23.eq_1 ..) ?_
      refine T_rI ?_
      refine T_let 0 (by decide +kernel) ?_
      refine T_if1 (by decide +kernel) ?_
      refine T_let (-1) z_up_s ?_
      refine T_if1 (by decide +kernel) ?_
      refine T_bI ?_
      refine T_of (fX5_hangsOut.eq_1 ..) ?_
      refine T_if1 (by decide +kernel) ?_
      refine T_let 2 (by decide +kernel) ?_
      refine T_if1 (by decide +kernel) ?_
      refine T_bI ?_
      refine T_of (fX7_get.eq_1 ..) ?_
      refine T_if0 (by decide) ?_
      refine T_if1 (by decide +kernel) ?_
      refine T_let 3 (by decide +kernel) ?_
      refine T_if1 (by decide +kernel) ?_
      refine T_let 9 (by decide +kernel) ?_
      refine T_if0 (by decide) ?_
      refine T_if1 (by decide +kernel) ?_
      refine T_let 3 (by decide +kernel) ?_
      refine T_if1 (by decide +kernel) ?_
      refine T_let 0 ((z_up_k (by decide)).trans ((z_up_k (by decide)).trans ((z_up_k (by decide)).trans (by decide +kernel)))) ?_
      refine T_of (fX7_get_J23.eq_1 ..) ?_
      refine T_rI ?_
      refine T_if1 (by decide) ?_
      refine T_of (fX5_hangsOut_J40.eq_1 ..) ?_
      refine T_of (fX5_hangsOut_J41.eq_1 ..) ?_
      refine T_if1 (by decide) ?_
      refine T_rI ?_
      refine T_if1 (by decide) ?_
      refine T_of (fX5_longWith_J69.eq_1 ..) ?_
      refine T_if1 (by decide +kernel) ?_
      refine T_let 0 ((z_up_j (by decide)).trans ((z_up_k (by decide)).trans ((z_up_k (by decide)).trans (by decide +kernel)))) ?_
      refine T_of (fX5_longWith_L75.eq_2 ..) ?_
      refine T_if1 (by decide +kernel) ?_
      refine T_let (-1) z_up_s ?_
      refine T_if1 (by decide) ?_
      refine T_if1 (by decide +kernel) ?_
      refine T_let 223 (by decide +kernel) ?_
      refine T_if1 (by decide +kernel) ?_
      refine T_bN ?_
      refine T_of (fX0_clear.eq_1 ..) ?_
      refine T_if1 (by decide +kernel) ?_
      refine T_up0 ((z_up_k (by decide)).trans ((z_up_k (by decide)).trans ((z_up_k (by decide)).trans (by decide +kernel)))) ?_
      refine T_rN ?_
      refine T_if1 (by decide +kernel) ?_
      refine T_let 223 (by decide +kernel) ?_
      refine T_if1 (by decide +kernel) ?_
      refine T_let 0 ((z_up_j (by decide)).trans ((z_up_k (by decide)).trans ((z_up_k (by decide)).trans (by decide +kernel)))) ?_
      refine T_if1 (by decide +kernel) ?_
      refine T_let (-1) z_up_s ?_
      refine T_if1 (by decide +kernel) ?_
      refine T_bN ?_
      refine T_of (fX0_gather.eq_1 ..) ?_
      refine T_of (fX0_gather_L2.eq_2 ..) ?_
      refine T_if1 (by decide) ?_
      refine T_rN ?_
      refine T_if1 (by decide +kernel) ?_
      refine T_let 223 (by decide +kernel) ?_
      refine T_if1 (by decide +kernel) ?_
      refine T_let 0 ((z_up_j (by decide)).trans ((z_up_k (by decide)).trans ((z_up_k (by decide)).trans (by decide +kernel)))) ?_
      refine T_if1 (by decide +kernel) ?_
      refine T_let (-1) z_up_s ?_
      refine T_if1 (by decide +kernel) ?_
      refine T_bI ?_
      refine T_of (fX0_hang.eq_1 ..) ?_
      refine T_of (fX0_hang_L9.eq_2 ..) ?_
      refine T_if1 (by decide +kernel) ?_
      refine T_let 0 ((z_up_k (by decide)).trans ((z_up_k (by decide)).trans ((z_up_k (by decide)).trans (by decide +kernel)))) ?_
      refine T_if1 (by decide) ?_
      refine T_rI ?_
      refine T_let 0 (by decide +kernel) ?_
      refine T_rI ?_
      refine T_if1 (by decide) ?_
      refine T_of (fX11_lend_J88.eq_1 ..) ?_
      refine T_let 5 (by decide +kernel) ?_
      refine T_of (fX11_lend_L43.eq_2 ..) ?_
      refine T_bI ?_
      refine T_of (fX11_pick.eq_1 ..) ?_
      refine T_if0 (by decide) ?_
      refine T_if1 (by decide +kernel) ?_
      refine T_if0 (by decide) ?_
      refine T_if1 (by decide +kernel) ?_
      refine T_let 6 (by decide +kernel) ?_
      refine T_of (fX11_pick_J17.eq_1 ..) ?_
      refine T_rI ?_
      refine T_if0 (by decide) ?_
      refine T_if1 (by decide +kernel) ?_
      refine T_let 220 (by decide +kernel) ?_
      refine T_if1 (by decide +kernel) ?_
      refine T_let 191 (by decide +kernel) ?_
      refine T_if1 (by decide +kernel) ?_
      refine T_let 0 ((z_up_k (by decide)).trans ((z_up_k (by decide)).trans ((z_up_k (by decide)).trans (by decide +kernel)))) ?_
      refine T_let (-1) (by decide +kernel) ?_
      refine T_if1 (by decide +kernel) ?_
      refine T_bI ?_
      refine T_of (fX5_longWith.eq_1 ..) ?_
      refine T_if1 (by decide +kernel) ?_
      refine T_bN ?_
      refine T_of (fX5_trim.eq_1 ..) ?_
      refine T_if1 (by decide +kernel) ?_
      refine T_up0 ((z_up_j (by decide)).trans ((z_up_k (by decide)).trans ((z_up_k (by decide)).trans (by decide +kernel)))) ?_
      refine T_if1 (by decide +kernel) ?_
      refine T_up0 z_up_s ?_
      refine T_of (fX5_trim_L10.eq_2 ..) ?_
      refine T_if1 (by decide +kernel) ?_
      refine T_let 0 ((z_up_j (by decide)).trans ((z_up_k (by decide)).trans ((z_up_k (by decide)).trans (by decide +kernel)))) ?_
      refine T_if1 (by decide +kernel) ?_
      refine T_let (-1) z_up_s ?_
      refine T_if1 (by decide) ?_
      refine T_of (fX5_trim_L53.eq_2 ..) ?_
      refine T_if1 (by decide +kernel) ?_
      refine T_let 0 ((z_up_j (by decide)).trans ((z_up_k (by decide)).trans ((z_up_k (by decide)).trans (by decide +kernel)))) ?_
      refine T_if1 (by decide +kernel) ?_
      refine T_let (-1) z_up_s ?_
      refine T_if1 (by decide) ?_
      refine T_of (fX5_trim_J96.eq_1 ..) ?_
      refine T_rN ?_
      refine T_if1 (by decide +kernel) ?_
      refine T_let 191 (by decide +kernel) ?_
      refine T_if1 (by decide +kernel) ?_
      refine T_let 210 (by decide +kernel) ?_
      refine T_if1 (by decide +kernel) ?_
      refine T_let (-1) z_up_s ?_
      refine T_let 0 (by decide +kernel) ?_
      refine T_if1 (by decide +kernel) ?_
      refine T_bI ?_
      refine T_of (fX7_get.eq_1 ..) ?_
      refine T_if0 (by decide) ?_
      refine T_if1 (by decide +kernel) ?_
      refine T_let 211 (by decide +kernel) ?_
      refine T_if1 (by decide +kernel) ?_
      refine T_let 201 (by decide +kernel) ?_
      refine T_if0 (by decide) ?_
      refine T_if1 (by decide +kernel) ?_
      refine T_let 211 (by decide +kernel) ?_
      refine T_if1 (by decide +kernel) ?_
      refine T_let 0 ((z_up_k (by decide)).trans ((z_up_k (by decide)).trans ((z_up_k (by decide)).trans (by decide +kernel)))) ?_
      refine T_of (fX7_get_J23.eq_1 ..) ?_
      refine T_rI ?_
      refine T_if1 (by decide +kernel) ?_
      refine T_let 191 (by decide +kernel) ?_
      refine T_if1 (by decide +kernel) ?_
      refine T_let 210 (by decide +kernel) ?_
      refine T_if1 (by decide +kernel) ?_
      refine T_let 0 ((z_up_j (by decide)).trans ((z_up_k (by decide)).trans ((z_up_k (by decide)).trans (by decide +kernel)))) ?_
      refine T_if1 (by decide +kernel) ?_
      refine T_bI ?_
      refine T_of (fX7_get.eq_1 ..) ?_
      refine T_if0 (by decide) ?_
      refine T_if1 (by decide +kernel) ?_
      refine T_let 211 (by decide +kernel) ?_
      refine T_if1 (by decide +kernel) ?_
      refine T_let 201 (by decide +kernel) ?_
      refine T_if0 (by decide) ?_
      refine T_if1 (by decide +kernel) ?_
      refine T_let 211 (by decide +kernel) ?_
      refine T_if1 (by decide +kernel) ?_
      refine T_let 0 ((z_up_k (by decide)).trans ((z_up_k (by decide)).trans ((z_up_k (by decide)).trans (by decide +kernel)))) ?_
      refine T_of (fX7_get_J23.eq_1 ..) ?_
      refine T_rI ?_
      refine T_let 0 (by decide +kernel) ?_
      refine T_if1 (by decide +kernel) ?_
      refine T_let (-1) z_up_s ?_
      refine T_if1 (by decide +kernel) ?_
      refine T_bI ?_
      refine T_of (fX5_hangsOut.eq_1 ..) ?_
      refine T_if1 (by decide +kernel) ?_
      refine T_let 2 (by decide +kernel) ?_
      refine T_if1 (by decide +kernel) ?_
      refine T_bI ?_
      refine T_of (fX7_get.eq_1 ..) ?_
      refine T_if0 (by decide) ?_
      refine T_if1 (by decide +kernel) ?_
      refine T_let 3 (by decide +kernel) ?_
      refine T_if1 (by decide +kernel) ?_
      refine T_let 9 (by decide +kernel) ?_
      refine T_if0 (by decide) ?_
      refine T_if1 (by decide +kernel) ?_
      refine T_let 3 (by decide +kernel) ?_
      refine T_if1 (by decide +kernel) ?_
      refine T_let 0 ((z_up_k (by decide)).trans ((z_up_k (by decide)).trans ((z_up_k (by decide)).trans (by decide +kernel)))) ?_
      refine T_of (fX7_get_J23.eq_1 ..) ?_
      refine T_rI ?_
      refine T_if1 (by decide) ?_
      refine T_of (fX5_hangsOut_J40.eq_1 ..) ?_
      refine T_of (fX5_hangsOut_J41.eq_1 ..) ?_
      refine T_if1 (by decide) ?_
      refine T_rI ?_
      refine T_if1 (by decide) ?_
      refine T_of (fX5_longWith_J69.eq_1 ..) ?_
      refine T_if1 (by decide +kernel) ?_
      refine T_let 0 ((z_up_j (by decide)).trans ((z_up_k (by decide)).trans ((z_up_k (by decide)).trans (by decide +kernel)))) ?_
      refine T_of (fX5_longWith_L75.eq_2 ..) ?_
      refine T_if1 (by decide +kernel) ?_
      refine T_let (-1) z_up_s ?_
      refine T_if1 (by decide) ?_
      refine T_if1 (by decide +kernel) ?_
      refine T_let 223 (by decide +kernel) ?_
      refine T_if1 (by decide +kernel) ?_
      refine T_bN ?_
      refine T_of (fX0_clear.eq_1 ..) ?_
      refine T_if1 (by decide +kernel) ?_
      refine T_up0 ((z_up_k (by decide)).trans ((z_up_k (by decide)).trans ((z_up_k (by decide)).trans (by decide +kernel)))) ?_
      refine T_rN ?_
      refine T_if1 (by decide +kernel) ?_
      refine T_let 223 (by decide +kernel) ?_
      refine T_if1 (by decide +kernel) ?_
      refine T_let 0 ((z_up_j (by decide)).trans ((z_up_k (by decide)).trans ((z_up_k (by decide)).trans (by decide +kernel)))) ?_
      refine T_if1 (by decide +kernel) ?_
      refine T_let (-1) z_up_s ?_
      refine T_if1 (by decide +kernel) ?_
      refine T_bN ?_
      refine T_of (fX0_gather.eq_1 ..) ?_
      refine T_of (fX0_gather_L2.eq_2 ..) ?_
      refine T_if1 (by decide) ?_
      refine T_rN ?_
      refine T_if1 (by decide +kernel) ?_
      refine T_let 223 (by decide +kernel) ?_
      refine T_if1 (by decide +kernel) ?_
      refine T_let 0 ((z_up_j (by decide)).trans ((z_up_k (by decide)).trans ((z_up_k (by decide)).trans (by decide +kernel)))) ?_
      refine T_if1 (by decide +kernel) ?_
      refine T_let (-1) z_up_s ?_
      refine T_if1 (by decide +kernel) ?_
      refine T_bI ?_
      refine T_of (fX0_hang.eq_1 ..) ?_
      refine T_of (fX0_hang_L9.eq_2 ..) ?_
      refine T_if1 (by decide +kernel) ?_
      refine T_let 0 ((z_up_k (by decide)).trans ((z_up_k (by decide)).trans ((z_up_k (by decide)).trans (by decide +kernel)))) ?_
      refine T_if1 (by decide) ?_
      refine T_rI ?_
      refine T_let 0 (by decide +kernel) ?_
      refine T_rI ?_
      refine T_if1 (by decide) ?_
      refine T_of (fX11_lend_J88.eq_1 ..) ?_
      refine T_let 6 (by decide +kernel) ?_
      refine T_of (fX11_lend_L43.eq_2 ..) ?_
      refine T_bI ?_
      refine T_of (fX11_pick.eq_1 ..) ?_
      refine T_if0 (by decide) ?_
      refine T_if1 (by decide +kernel) ?_
      refine T_if0 (by decide) ?_
      refine T_if1 (by decide +kernel) ?_
      refine T_let 6 (by decide +kernel) ?_
      refine T_of (fX11_pick_J17.eq_1 ..) ?_
      refine T_rI ?_
      refine T_if0 (by decide) ?_
      refine T_if1 (by decide +kernel) ?_
      refine T_let 220 (by decide +kernel) ?_
      refine T_if1 (by decide +kernel) ?_
      refine T_let 191 (by decide +kernel) ?_
      refine T_if1 (by decide +kernel) ?_
      refine T_let 0 ((z_up_k (by decide)).trans ((z_up_k (by decide)).trans ((z_up_k (by decide)).trans (by decide +kernel)))) ?_
      refine T_let (-1) (by decide +kernel) ?_
      refine T_if1 (by decide +kernel) ?_
      refine T_bI ?_
      refine T_of (fX5_longWith.eq_1 ..) ?_
      refine T_if1 (by decide +kernel) ?_
      refine T_bN ?_
      refine T_of (fX5_trim.eq_1 ..) ?_
      refine T_if1 (by decide +kernel) ?_
      refine T_up0 ((z_up_j (by decide)).trans ((z_up_k (by decide)).trans ((z_up_k (by decide)).trans (by decide +kernel)))) ?_
      refine T_if1 (by decide +kernel) ?_
      refine T_up0 z_up_s ?_
      refine T_of (fX5_trim_L10.eq_2 ..) ?_
      refine T_if1 (by decide +kernel) ?_
      refine T_let 0 ((z_up_j (by decide)).trans ((z_up_k (by decide)).trans ((z_up_k (by decide)).trans (by decide +kernel)))) ?_
      refine T_if1 (by decide +kernel) ?_
      refine T_let (-1) z_up_s ?_
      refine T_if1 (by decide) ?_
      refine T_of (fX5_trim_L53.eq_2 ..) ?_
      refine T_if1 (by decide +kernel) ?_
      refine T_let 0 ((z_up_j (by decide)).trans ((z_up_k (by decide)).trans ((z_up_k (by decide)).trans (by decide +kernel)))) ?_
      refine T_if1 (by decide +kernel) ?_
      refine T_let (-1) z_up_s ?_
      refine T_if1 (by decide) ?_
      refine T_of (fX5_trim_J96.eq_1 ..) ?_
      refine T_rN ?_
      refine T_if1 (by decide +kernel) ?_
      refine T_let 191 (by decide +kernel) ?_
      refine T_if1 (by decide +kernel) ?_
      refine T_let 210 (by decide +kernel) ?_
      refine T_if1 (by decide +kernel) ?_
      refine T_let (-1) z_up_s ?_
      refine T_let 0 (by decide +kernel) ?_
      refine T_if1 (by decide +kernel) ?_
      refine T_bI ?_
      refine T_of (fX7_get.eq_1 ..) ?_
      refine T_if0 (by decide) ?_
      refine T_if1 (by decide +kernel) ?_
      refine T_let 211 (by decide +kernel) ?_
      refine T_if1 (by decide +kernel) ?_
      refine T_let 201 (by decide +kernel) ?_
      refine T_if0 (by decide) ?_
      refine T_if1 (by decide +kernel) ?_
      refine T_let 211 (by decide +kernel) ?_
      refine T_if1 (by decide +kernel) ?_
      refine T_let 0 ((z_up_k (by decide)).trans ((z_up_k (by decide)).trans ((z_up_k (by decide)).trans (by decide +kernel)))) ?_
      refine T_of (fX7_get_J23.eq_1 ..) ?_
      refine T_rI ?_
      refine T_if1 (by decide +kernel) ?_
      refine T_let 191 (by decide +kernel) ?_
      refine T_if1 (by decide +kernel) ?_
      refine T_let 210 (by decide +kernel) ?_
      refine T_if1 (by decide +kernel) ?_
      refine T_let 0 ((z_up_j (by decide)).trans ((z_up_k (by decide)).trans ((z_up_k (by decide)).trans (by decide +kernel)))) ?_
      refine T_if1 (by decide +kernel) ?_
      refine T_bI ?_
      refine T_of (fX7_get.eq_1 ..) ?_
      refine T_if0 (by decide) ?_
      refine T_if1 (by decide +kernel) ?_
      refine T_let 211 (by decide +kernel) ?_
      refine T_if1 (by decide +kernel) ?_
      refine T_let 201 (by decide +kernel) ?_
      refine T_if0 (by decide) ?_
      refine T_if1 (by decide +kernel) ?_
      refine T_let 211 (by decide +kernel) ?_
      refine T_if1 (by decide +kernel) ?_
      refine T_let 0 ((z_up_k (by decide)).trans ((z_up_k (by decide)).trans ((z_up_k (by decide)).trans (by decide +kernel)))) ?_
      refine T_of (fX7_get_J23.eq_1 ..) ?_
      refine T_rI ?_
      refine T_let 0 (by decide +kernel) ?_
      refine T_if1 (by decide +kernel) ?_
      refine T_let (-1) z_up_s ?_
      refine T_if1 (by decide +kernel) ?_
      refine T_bI ?_
      refine T_of (fX5_hangsOut.eq_1 ..) ?_
      refine T_if1 (by decide +kernel) ?_
      refine T_let 2 (by decide +kernel) ?_
      refine T_if1 (by decide +kernel) ?_
      refine T_bI ?_
      refine T_of (fX7_get.eq_1 ..) ?_
      refine T_if0 (by decide) ?_
      refine T_if1 (by decide +kernel) ?_
      refine T_let 3 (by decide +kernel) ?_
      refine T_if1 (by decide +kernel) ?_
      refine T_let 9 (by decide +kernel) ?_
      refine T_if0 (by decide) ?_
      refine T_if1 (by decide +kernel) ?_
      refine T_let 3 (by decide +kernel) ?_
      refine T_if1 (by decide +kernel) ?_
      refine T_let 0 ((z_up_k (by decide)).trans ((z_up_k (by decide)).trans ((z_up_k (by decide)).trans (by decide +kernel)))) ?_
      refine T_of (fX7_get_J23.eq_1 ..) ?_
      refine T_rI ?_
      refine T_if1 (by decide) ?_
      refine T_of (fX5_hangsOut_J40.eq_1 ..) ?_
      refine T_of (fX5_hangsOut_J41.eq_1 ..) ?_
      refine T_if1 (by decide) ?_
      refine T_rI ?_
      refine T_if1 (by decide) ?_
      refine T_of (fX5_longWith_J69.eq_1 ..) ?_
      refine T_if1 (by decide +kernel) ?_
      refine T_let 0 ((z_up_j (by decide)).trans ((z_up_k (by decide)).trans ((z_up_k (by decide)).trans (by decide +kernel)))) ?_
      refine T_of (fX5_longWith_L75.eq_2 ..) ?_
      refine T_if1 (by decide +kernel) ?_
      refine T_let (-1) z_up_s ?_
      refine T_if1 (by decide) ?_
      refine T_if1 (by decide +kernel) ?_
      refine T_let 223 (by decide +kernel) ?_
      refine T_if1 (by decide +kernel) ?_
      refine T_bN ?_
      refine T_of (fX0_clear.eq_1 ..) ?_
      refine T_if1 (by decide +kernel) ?_
      refine T_up0 ((z_up_k (by decide)).trans ((z_up_k (by decide)).trans ((z_up_k (by decide)).trans (by decide +kernel)))) ?_
      refine T_rN ?_
      refine T_if1 (by decide +kernel) ?_
      refine T_let 223 (by decide +kernel) ?_
      refine T_if1 (by decide +kernel) ?_
      refine T_let 0 ((z_up_j (by decide)).trans ((z_up_k (by decide)).trans ((z_up_k (by decide)).trans (by decide +kernel)))) ?_
      refine T_if1 (by decide +kernel) ?_
      refine T_let (-1) z_up_s ?_
      refine T_if1 (by decide +kernel) ?_
      refine T_bN ?_
      refine T_of (fX0_gather.eq_1 ..) ?_
      refine T_of (fX0_gather_L2.eq_2 ..) ?_
      refine T_if1 (by decide) ?_
      refine T_rN ?_
      refine T_if1 (by decide +kernel) ?_
      refine T_let 223 (by decide +kernel) ?_
      refine T_if1 (by decide +kernel) ?_
      refine T_let 0 ((z_up_j (by decide)).trans ((z_up_k (by decide)).trans ((z_up_k (by decide)).trans (by decide +kernel)))) ?_
      refine T_if1 (by decide +kernel) ?_
      refine T_let (-1) z_up_s ?_
      refine T_if1 (by decide +kernel) ?_
      refine T_bI ?_
      refine T_of (fX0_hang.eq_1 ..) ?_
      refine T_of (fX0_hang_L9.eq_2 ..) ?_
      refine T_if1 (by decide +kernel) ?_
      refine T_let 0 ((z_up_k (by decide)).trans ((z_up_k (by decide)).trans ((z_up_k (by decide)).trans (by decide +kernel)))) ?_
      refine T_if1 (by decide) ?_
      refine T_rI ?_
      refine T_let 0 (by decide +kernel) ?_
      refine T_rI ?_
      refine T_if1 (by decide) ?_
      refine T_of (fX11_lend_J88.eq_1 ..) ?_
      refine T_let 7 (by decide +kernel) ?_
      refine T_of (fX11_lend_L43.eq_2 ..) ?_
      refine T_bI ?_
      refine T_of (fX11_pick.eq_1 ..) ?_
      refine T_if0 (by decide) ?_
      refine T_if1 (by decide +kernel) ?_
      refine T_if0 (by decide) ?_
      refine T_if1 (by decide +kernel) ?_
      refine T_let 6 (by decide +kernel) ?_
      refine T_of (fX11_pick_J17.eq_1 ..) ?_
      refine T_rI ?_
      refine T_if1 (by decide) ?_
      refine T_ite (fun h3 => ?_) (fun h3 => ?_)
      · refine T_of (fX11_lend_J103.eq_1 ..) ?_
        refine T_rcI ?_
        refine T_if1 (by decide +kernel) ?_
        refine T_up0 ((z_up_k (by decide)).trans ((z_up_k (by decide)).trans ((z_up_k (by decide)).trans (by decide +kernel)))) ?_
        refine T_rI ?_
        refine T_let 1 (by decide +kernel) ?_
        refine T_if1 (by decide) ?_
        refine T_let p1 q1 ?_
        refine T_if1 (by decide +kernel) ?_
        refine T_bI ?_
        refine T_of (fX12_lend.eq_1 ..) ?_
        refine T_if1 (by decide +kernel) ?_
        refine T_up0 ((z_up_k (by decide)).trans ((z_up_k (by decide)).trans ((z_up_k (by decide)).trans (by decide +kernel)))) ?_
        refine T_bI ?_
        refine T_of (fX12_in.eq_1 ..) ?_
        refine T_if0 (by omega) ?_
        refine T_if0 (by omega) ?_
        refine T_of (fX12_in_J15.eq_1 ..) ?_
        refine T_if1 (by decide) ?_
        refine T_rI ?_
        refine T_if1 (by decide) ?_
        refine T_of (fX12_lend_J20.eq_1 ..) ?_
        refine T_if1 (by decide +kernel) ?_
        refine T_bI ?_
        refine T_of (fX12_bad.eq_1 ..) ?_
        refine T_if1 (by decide) ?_
        refine T_of (fX12_bad_J26.eq_1 ..) ?_
        refine T_if1 (by decide +kernel) ?_
        refine T_let 0 ((z_up_k (by decide)).trans ((z_up_k (by decide)).trans ((z_up_k (by decide)).trans (by decide +kernel)))) ?_
        refine T_if1 (by decide) ?_
        refine T_of (fX12_bad_J38.eq_1 ..) ?_
        refine T_if1 (by decide) ?_
        refine T_rI ?_
        refine T_if1 (by decide) ?_
        refine T_if1 (by decide +kernel) ?_
        refine T_let 312 (by decide +kernel) ?_
        refine T_if1 (by decide +kernel) ?_
        refine T_let 3 ((z_up_k (by decide)).trans ((z_up_k (by decide)).trans ((z_up_k (by decide)).trans (by decide +kernel)))) ?_
        refine T_of (fX12_lend_L45.eq_2 ..) ?_
        refine T_if0 (by decide) ?_
        refine T_if1 (by decide +kernel) ?_
        refine T_let 312 (by decide +kernel) ?_
        refine T_if1 (by decide +kernel) ?_
        refine T_up ?_
        refine T_if1 (by decide +kernel) ?_
        refine T_let 0 ((z_up_k (by decide)).trans ((z_up_k (by decide)).trans ((z_up_k (by decide)).trans ((z_up_k (by decide)).trans (by decide +kernel))))) ?_
        refine T_if0 (by decide) ?_
        refine T_of (fX12_lend_J82.eq_1 ..) ?_
        refine T_if1 (by decide) ?_
        refine T_of (fX12_lend_J100.eq_1 ..) ?_
        refine T_of (fX12_lend_J107.eq_1 ..) ?_
        refine T_let 1 (by decide +kernel) ?_
        refine T_of (fX12_lend_L45.eq_2 ..) ?_
        refine T_if0 (by decide) ?_
        refine T_if1 (by decide +kernel) ?_
        refine T_let 312 (by decide +kernel) ?_
        refine T_if1 (by decide +kernel) ?_
        refine T_up ?_
        refine T_if1 (by decide +kernel) ?_
        refine T_let 0 ((z_up_k (by decide)).trans ((z_up_k (by decide)).trans ((z_up_k (by decide)).trans ((z_up_k (by decide)).trans ((z_up_k (by decide)).trans (by decide +kernel)))))) ?_
        refine T_if0 (by decide) ?_
        refine T_of (fX12_lend_J82.eq_1 ..) ?_
        refine T_if0 (by decide) ?_
        refine T_if0 (by decide) ?_
        refine T_of (fX12_lend_J107.eq_1 ..) ?_
        refine T_let 2 (by decide +kernel) ?_
        refine T_of (fX12_lend_L45.eq_2 ..) ?_
        refine T_if0 (by decide) ?_
        refine T_if1 (by decide +kernel) ?_
        refine T_let 312 (by decide +kernel) ?_
        refine T_if1 (by decide +kernel) ?_
        refine T_up ?_
        refine T_if1 (by decide +kernel) ?_
        refine T_let 0 ((z_up_k (by decide)).trans ((z_up_k (by decide)).trans ((z_up_k (by decide)).trans ((z_up_k (by decide)).trans ((z_up_k (by decide)).trans ((z_up_k (by decide)).trans (by decide +kernel))))))) ?_
        refine T_if0 (by decide) ?_
        refine T_of (fX12_lend_J82.eq_1 ..) ?_
        refine T_if0 (by decide) ?_
        refine T_if0 (by decide) ?_
        refine T_of (fX12_lend_J107.eq_1 ..) ?_
        refine T_let 3 (by decide +kernel) ?_
        refine T_of (fX12_lend_L45.eq_2 ..) ?_
        refine T_if0 (by decide) ?_
        refine T_if1 (by decide +kernel) ?_
        refine T_let 312 (by decide +kernel) ?_
        refine T_if1 (by decide +kernel) ?_
        refine T_up ?_
        refine T_if1 (by decide +kernel) ?_
        refine T_let 0 ((z_up_k (by decide)).trans ((z_up_k (by decide)).trans ((z_up_k (by decide)).trans ((z_up_k (by decide)).trans ((z_up_k (by decide)).trans ((z_up_k (by decide)).trans ((z_up_k (by decide)).trans (by decide +kernel)))))))) ?_
        refine T_if0 (by decide) ?_
        refine T_of (fX12_lend_J82.eq_1 ..) ?_
        refine T_if0 (by decide) ?_
        refine T_if0 (by decide) ?_
        refine T_of (fX12_lend_J107.eq_1 ..) ?_
        refine T_let 4 (by decide +kernel) ?_
        refine T_of (fX12_lend_L45.eq_2 ..) ?_
        refine T_if0 (by decide) ?_
        refine T_if1 (by decide +kernel) ?_
        refine T_let 312 (by decide +kernel) ?_
        refine T_if1 (by decide +kernel) ?_
        refine T_up ?_
        refine T_if1 (by decide +kernel) ?_
        refine T_let 0 ((z_up_k (by decide)).trans ((z_up_k (by decide)).trans ((z_up_k (by decide)).trans ((z_up_k (by decide)).trans ((z_up_k (by decide)).trans ((z_up_k (by decide)).trans ((z_up_k (by decide)).trans ((z_up_k (by decide)).trans (by decide +kernel))))))))) ?_
        refine T_if0 (by decide) ?_
        refine T_of (fX12_lend_J82.eq_1 ..) ?_
        refine T_if0 (by decide) ?_
        refine T_if0 (by decide) ?_
        refine T_of (fX12_lend_J107.eq_1 ..) ?_
        refine T_let 5 (by decide +kernel) ?_
        refine T_of (fX12_lend_L45.eq_2 ..) ?_
        refine T_if0 (by decide) ?_
        refine T_if1 (by decide +kernel) ?_
        refine T_let 312 (by decide +kernel) ?_
        refine T_if1 (by decide +kernel) ?_
        refine T_up ?_
        refine T_if1 (by decide +kernel) ?_
        refine T_let 0 ((z_up_k (by decide)).trans ((z_up_k (by decide)).trans ((z_up_k (by decide)).trans ((z_up_k (by decide)).trans ((z_up_k (by decide)).trans ((z_up_k (by decide)).trans ((z_up_k (by decide)).trans ((z_up_k (by decide)).trans ((z_up_k (by decide)).trans (by decide +kernel)))))))))) ?_
        refine T_if0 (by decide) ?_
        refine T_of (fX12_lend_J82.eq_1 ..) ?_
        refine T_if0 (by decide) ?_
        refine T_if0 (by decide) ?_
        refine T_of (fX12_lend_J107.eq_1 ..) ?_
        refine T_let 6 (by decide +kernel) ?_
        refine T_of (fX12_lend_L45.eq_2 ..) ?_
        refine T_if0 (by decide) ?_
        refine T_if1 (by decide +kernel) ?_
        refine T_let 312 (by decide +kernel) ?_
        refine T_if1 (by decide +kernel) ?_
        refine T_up ?_
        refine T_if1 (by decide +kernel) ?_
        refine T_let 0 ((z_up_k (by decide)).trans ((z_up_k (by decide)).trans ((z_up_k (by decide)).trans ((z_up_k (by decide)).trans ((z_up_k (by decide)).trans ((z_up_k (by decide)).trans ((z_up_k (by decide)).trans ((z_up_k (by decide)).trans ((z_up_k (by decide)).trans ((z_up_k (by decide)).trans (by decide +kernel))))))))))) ?_
        refine T_if0 (by decide) ?_
        refine T_of (fX12_lend_J82.eq_1 ..) ?_
        refine T_if0 (by decide) ?_
        refine T_if0 (by decide) ?_
        refine T_of (fX12_lend_J107.eq_1 ..) ?_
        refine T_let 7 (by decide +kernel) ?_
        refine T_of (fX12_lend_L45.eq_2 ..) ?_
        refine T_if1 (by decide) ?_
        refine T_if1 (by decide +kernel) ?_
        refine T_let 312 (by decide +kernel) ?_
        refine T_if1 (by decide +kernel) ?_
        refine T_up ?_
        refine T_if1 (by decide +kernel) ?_
        refine T_up0 ((z_up_k (by decide)).trans ((z_up_k (by decide)).trans ((z_up_k (by decide)).trans ((z_up_k (by decide)).trans ((z_up_k (by decide)).trans ((z_up_k (by decide)).trans ((z_up_k (by decide)).trans ((z_up_k (by decide)).trans ((z_up_k (by decide)).trans ((z_up_k (by decide)).trans ((z_up_k (by decide)).trans (by decide +kernel)))))))))))) ?_
        refine T_if1 (by omega) ?_
        refine T_of (fX12_lend_J135.eq_1 ..) ?_
        refine T_rI ?_
        refine T_if1 (by decide +kernel) ?_
        refine T_bI ?_
        refine T_of (fX12_thrown.eq_1 ..) ?_
        refine T_if1 (by decide +kernel) ?_
        refine T_let 0 ((z_up_k (by decide)).trans ((z_up_k (by decide)).trans ((z_up_k (by decide)).trans ((z_up_k (by decide)).trans ((z_up_k (by decide)).trans ((z_up_k (by decide)).trans ((z_up_k (by decide)).trans ((z_up_k (by decide)).trans ((z_up_k (by decide)).trans ((z_up_k (by decide)).trans ((z_up_k (by decide)).trans (by decide +kernel)))))))))))) ?_
        refine T_rI ?_
        refine T_if1 (by decide) ?_
        refine T_if0 (by decide) ?_
        refine T_if1 (by decide +kernel) ?_
        refine T_let 0 ((z_up_k (by decide)).trans ((z_up_k (by decide)).trans ((z_up_k (by decide)).trans ((z_up_k (by decide)).trans ((z_up_k (by decide)).trans ((z_up_k (by decide)).trans ((z_up_k (by decide)).trans ((z_up_k (by decide)).trans ((z_up_k (by decide)).trans ((z_up_k (by decide)).trans ((z_up_k (by decide)).trans (by decide +kernel)))))))))))) ?_
        refine T_let 0 (by decide +kernel) ?_
        refine T_if1 (by decide) ?_
        refine T_of (fL_law_J1481.eq_1 ..) ?_
        refine T_of (fL_law_J2073.eq_1 ..) ?_
        refine T_let 6 (by decide +kernel) ?_
        exact hr _
      · have h3 := Decidable.not_not.mp h3
        subst h3
        refine T_of (fX11_lend_J103.eq_1 ..) ?_
        refine T_rcI ?_
        refine T_if1 (by decide +kernel) ?_
        refine T_up0 ((z_up_k (by decide)).trans ((z_up_k (by decide)).trans ((z_up_k (by decide)).trans (by decide +kernel)))) ?_
        refine T_rI ?_
        refine T_let 1 (by decide +kernel) ?_
        refine T_if1 (by decide) ?_
        refine T_let 0 q1 ?_
        refine T_if1 (by decide +kernel) ?_
        refine T_bI ?_
        refine T_of (fX12_lend.eq_1 ..) ?_
        refine T_if1 (by decide +kernel) ?_
        refine T_up0 ((z_up_k (by decide)).trans ((z_up_k (by decide)).trans ((z_up_k (by decide)).trans (by decide +kernel)))) ?_
        refine T_bI ?_
        refine T_of (fX12_in.eq_1 ..) ?_
        refine T_if0 (by decide) ?_
        refine T_if0 (by decide) ?_
        refine T_of (fX12_in_J15.eq_1 ..) ?_
        refine T_if1 (by decide) ?_
        refine T_rI ?_
        refine T_if1 (by decide) ?_
        refine T_of (fX12_lend_J20.eq_1 ..) ?_
        refine T_if1 (by decide +kernel) ?_
        refine T_bI ?_
        refine T_of (fX12_bad.eq_1 ..) ?_
        refine T_if1 (by decide) ?_
        refine T_of (fX12_bad_J26.eq_1 ..) ?_
        refine T_if1 (by decide +kernel) ?_
        refine T_let 0 ((z_up_k (by decide)).trans ((z_up_k (by decide)).trans ((z_up_k (by decide)).trans (by decide +kernel)))) ?_
        refine T_if1 (by decide) ?_
        refine T_of (fX12_bad_J38.eq_1 ..) ?_
        refine T_if1 (by decide) ?_
        refine T_rI ?_
        refine T_if1 (by decide) ?_
        refine T_if1 (by decide +kernel) ?_
        refine T_let 312 (by decide +kernel) ?_
        refine T_if1 (by decide +kernel) ?_
        refine T_let 3 ((z_up_k (by decide)).trans ((z_up_k (by decide)).trans ((z_up_k (by decide)).trans (by decide +kernel)))) ?_
        refine T_of (fX12_lend_L45.eq_2 ..) ?_
        refine T_if0 (by decide) ?_
        refine T_if1 (by decide +kernel) ?_
        refine T_let 312 (by decide +kernel) ?_
        refine T_if1 (by decide +kernel) ?_
        refine T_up ?_
        refine T_if1 (by decide +kernel) ?_
        refine T_let 0 ((z_up_k (by decide)).trans ((z_up_k (by decide)).trans ((z_up_k (by decide)).trans ((z_up_k (by decide)).trans (by decide +kernel))))) ?_
        refine T_if0 (by decide) ?_
        refine T_of (fX12_lend_J82.eq_1 ..) ?_
        refine T_if1 (by decide) ?_
        refine T_of (fX12_lend_J100.eq_1 ..) ?_
        refine T_of (fX12_lend_J107.eq_1 ..) ?_
        refine T_let 1 (by decide +kernel) ?_
        refine T_of (fX12_lend_L45.eq_2 ..) ?_
        refine T_if0 (by decide) ?_
        refine T_if1 (by decide +kernel) ?_
        refine T_let 312 (by decide +kernel) ?_
        refine T_if1 (by decide +kernel) ?_
        refine T_up ?_
        refine T_if1 (by decide +kernel) ?_
        refine T_let 0 ((z_up_k (by decide)).trans ((z_up_k (by decide)).trans ((z_up_k (by decide)).trans ((z_up_k (by decide)).trans ((z_up_k (by decide)).trans (by decide +kernel)))))) ?_
        refine T_if0 (by decide) ?_
        refine T_of (fX12_lend_J82.eq_1 ..) ?_
        refine T_if0 (by decide) ?_
        refine T_if0 (by decide) ?_
        refine T_of (fX12_lend_J107.eq_1 ..) ?_
        refine T_let 2 (by decide +kernel) ?_
        refine T_of (fX12_lend_L45.eq_2 ..) ?_
        refine T_if0 (by decide) ?_
        refine T_if1 (by decide +kernel) ?_
        refine T_let 312 (by decide +kernel) ?_
        refine T_if1 (by decide +kernel) ?_
        refine T_up ?_
        refine T_if1 (by decide +kernel) ?_
        refine T_let 0 ((z_up_k (by decide)).trans ((z_up_k (by decide)).trans ((z_up_k (by decide)).trans ((z_up_k (by decide)).trans ((z_up_k (by decide)).trans ((z_up_k (by decide)).trans (by decide +kernel))))))) ?_
        refine T_if0 (by decide) ?_
        refine T_of (fX12_lend_J82.eq_1 ..) ?_
        refine T_if0 (by decide) ?_
        refine T_if0 (by decide) ?_
        refine T_of (fX12_lend_J107.eq_1 ..) ?_
        refine T_let 3 (by decide +kernel) ?_
        refine T_of (fX12_lend_L45.eq_2 ..) ?_
        refine T_if0 (by decide) ?_
        refine T_if1 (by decide +kernel) ?_
        refine T_let 312 (by decide +kernel) ?_
        refine T_if1 (by decide +kernel) ?_
        refine T_up ?_
        refine T_if1 (by decide +kernel) ?_
        refine T_let 0 ((z_up_k (by decide)).trans ((z_up_k (by decide)).trans ((z_up_k (by decide)).trans ((z_up_k (by decide)).trans ((z_up_k (by decide)).trans ((z_up_k (by decide)).trans ((z_up_k (by decide)).trans (by decide +kernel)))))))) ?_
        refine T_if0 (by decide) ?_
        refine T_of (fX12_lend_J82.eq_1 ..) ?_
        refine T_if0 (by decide) ?_
        refine T_if0 (by decide) ?_
        refine T_of (fX12_lend_J107.eq_1 ..) ?_
        refine T_let 4 (by decide +kernel) ?_
        refine T_of (fX12_lend_L45.eq_2 ..) ?_
        refine T_if0 (by decide) ?_
        refine T_if1 (by decide +kernel) ?_
        refine T_let 312 (by decide +kernel) ?_
        refine T_if1 (by decide +kernel) ?_
        refine T_up ?_
        refine T_if1 (by decide +kernel) ?_
        refine T_let 0 ((z_up_k (by decide)).trans ((z_up_k (by decide)).trans ((z_up_k (by decide)).trans ((z_up_k (by decide)).trans ((z_up_k (by decide)).trans ((z_up_k (by decide)).trans ((z_up_k (by decide)).trans ((z_up_k (by decide)).trans (by decide +kernel))))))))) ?_
        refine T_if0 (by decide) ?_
        refine T_of (fX12_lend_J82.eq_1 ..) ?_
        refine T_if0 (by decide) ?_
        refine T_if0 (by decide) ?_
        refine T_of (fX12_lend_J107.eq_1 ..) ?_
        refine T_let 5 (by decide +kernel) ?_
        refine T_of (fX12_lend_L45.eq_2 ..) ?_
        refine T_if0 (by decide) ?_
        refine T_if1 (by decide +kernel) ?_
        refine T_let 312 (by decide +kernel) ?_
        refine T_if1 (by decide +kernel) ?_
        refine T_up ?_
        refine T_if1 (by decide +kernel) ?_
        refine T_let 0 ((z_up_k (by decide)).trans ((z_up_k (by decide)).trans ((z_up_k (by decide)).trans ((z_up_k (by decide)).trans ((z_up_k (by decide)).trans ((z_up_k (by decide)).trans ((z_up_k (by decide)).trans ((z_up_k (by decide)).trans ((z_up_k (by decide)).trans (by decide +kernel)))))))))) ?_
        refine T_if0 (by decide) ?_
        refine T_of (fX12_lend_J82.eq_1 ..) ?_
        refine T_if0 (by decide) ?_
        refine T_if0 (by decide) ?_
        refine T_of (fX12_lend_J107.eq_1 ..) ?_
        refine T_let 6 (by decide +kernel) ?_
        refine T_of (fX12_lend_L45.eq_2 ..) ?_
        refine T_if0 (by decide) ?_
        refine T_if1 (by decide +kernel) ?_
        refine T_let 312 (by decide +kernel) ?_
        refine T_if1 (by decide +kernel) ?_
        refine T_up ?_
        refine T_if1 (by decide +kernel) ?_
        refine T_let 0 ((z_up_k (by decide)).trans ((z_up_k (by decide)).trans ((z_up_k (by decide)).trans ((z_up_k (by decide)).trans ((z_up_k (by decide)).trans ((z_up_k (by decide)).trans ((z_up_k (by decide)).trans ((z_up_k (by decide)).trans ((z_up_k (by decide)).trans ((z_up_k (by decide)).trans (by decide +kernel))))))))))) ?_
        refine T_if0 (by decide) ?_
        refine T_of (fX12_lend_J82.eq_1 ..) ?_
        refine T_if0 (by decide) ?_
        refine T_if0 (by decide) ?_
        refine T_of (fX12_lend_J107.eq_1 ..) ?_
        refine T_let 7 (by decide +kernel) ?_
        refine T_of (fX12_lend_L45.eq_2 ..) ?_
        refine T_if1 (by decide) ?_
        refine T_if1 (by decide +kernel) ?_
        refine T_let 312 (by decide +kernel) ?_
        refine T_if1 (by decide +kernel) ?_
        refine T_up ?_
        refine T_if1 (by decide +kernel) ?_
        refine T_up0 ((z_up_k (by decide)).trans ((z_up_k (by decide)).trans ((z_up_k (by decide)).trans ((z_up_k (by decide)).trans ((z_up_k (by decide)).trans ((z_up_k (by decide)).trans ((z_up_k (by decide)).trans ((z_up_k (by decide)).trans ((z_up_k (by decide)).trans ((z_up_k (by decide)).trans ((z_up_k (by decide)).trans (by decide +kernel)))))))))))) ?_
        refine T_if0 (by decide) ?_
        refine T_of (fX12_lend_J135.eq_1 ..) ?_
        refine T_rI ?_
        refine T_if1 (by decide +kernel) ?_
        refine T_bI ?_
        refine T_of (fX12_thrown.eq_1 ..) ?_
        refine T_if1 (by decide +kernel) ?_
        refine T_let 0 ((z_up_k (by decide)).trans ((z_up_k (by decide)).trans ((z_up_k (by decide)).trans ((z_up_k (by decide)).trans ((z_up_k (by decide)).trans ((z_up_k (by decide)).trans ((z_up_k (by decide)).trans ((z_up_k (by decide)).trans ((z_up_k (by decide)).trans ((z_up_k (by decide)).trans ((z_up_k (by decide)).trans (by decide +kernel)))))))))))) ?_
        refine T_rI ?_
        refine T_if1 (by decide) ?_
        refine T_if0 (by decide) ?_
        refine T_if1 (by decide +kernel) ?_
        refine T_let 0 ((z_up_k (by decide)).trans ((z_up_k (by decide)).trans ((z_up_k (by decide)).trans ((z_up_k (by decide)).trans ((z_up_k (by decide)).trans ((z_up_k (by decide)).trans ((z_up_k (by decide)).trans ((z_up_k (by decide)).trans ((z_up_k (by decide)).trans ((z_up_k (by decide)).trans ((z_up_k (by decide)).trans (by decide +kernel)))))))))))) ?_
        refine T_let 0 (by decide +kernel) ?_
        refine T_if1 (by decide) ?_
        refine T_of (fL_law_J1481.eq_1 ..) ?_
        refine T_of (fL_law_J2073.eq_1 ..) ?_
        refine T_let 6 (by decide +kernel) ?_
        exact hr _
    · refine T_of (fX11_needWithin_J10.eq_1 ..) ?_
      refine T_if1 (by decide +kernel) ?_
      refine T_let 0 (by decide +kernel) ?_
      refine T_let 1 (by decide +kernel) ?_
      refine T_if1 (by decide +kernel) ?_
      refine T_up ?_
      refine T_xN ?_
      refine T_x1I ?_
      refine T_rI ?_
      refine T_let 1 (by decide +kernel) ?_
      refine T_if1 (by decide) ?_
      refine T_let p1 q1 ?_
      refine T_if1 (by decide +kernel) ?_
      refine T_bI ?_
      refine T_of (fX12_lend.eq_1 ..) ?_
      refine T_if1 (by decide +kernel) ?_
      refine T_up0 ((z_up_k (by decide)).trans (by decide +kernel)) ?_
      refine T_bI ?_
      refine T_of (fX12_in.eq_1 ..) ?_
      refine T_if0 (by omega) ?_
      refine T_if1 (by omega) ?_
      refine T_of (fX12_in_J14.eq_1 ..) ?_
      refine T_of (fX12_in_J15.eq_1 ..) ?_
      refine T_if1 (by decide) ?_
      refine T_rI ?_
      refine T_if0 (by decide) ?_
      refine T_of (fX12_lend_J20.eq_1 ..) ?_
      refine T_if1 (by decide +kernel) ?_
      refine T_bI ?_
      refine T_of (fX12_bad.eq_1 ..) ?_
      refine T_if0 (by decide) ?_
      refine T_if1 (by decide +kernel) ?_
      refine T_let 0 ((z_up_k (by decide)).trans (by decide +kernel)) ?_
      refine T_if0 (by decide) ?_
      refine T_if1 (by decide +kernel) ?_
      refine T_up ?_
      refine T_if1 (by decide +kernel) ?_
      refine T_let 310 (by decide +kernel) ?_
      refine T_if1 (by decide +kernel) ?_
      refine T_let 0 ((z_up_k (by decide)).trans ((z_up_k (by decide)).trans (by decide +kernel))) ?_
      refine T_let 1 (by decide +kernel) ?_
      refine T_if1 (by decide +kernel) ?_
      refine T_up ?_
      refine T_of (fX12_bad_J26.eq_1 ..) ?_
      refine T_if1 (by decide +kernel) ?_
      refine T_let 1 ((z_up_k (by decide)).trans z_up_s) ?_
      refine T_if0 (by decide) ?_
      refine T_of (fX12_bad_J38.eq_1 ..) ?_
      refine T_if1 (by decide) ?_
      refine T_rI ?_
      refine T_if0 (by decide) ?_
      refine T_rI ?_
      refine T_if1 (by decide +kernel) ?_
      refine T_bI ?_
      refine T_of (fX12_thrown.eq_1 ..) ?_
      refine T_if1 (by decide +kernel) ?_
      refine T_let 1 ((z_up_k (by decide)).trans z_up_s) ?_
      refine T_rI ?_
      refine T_if1 (by decide) ?_
      refine T_if1 (by decide) ?_
      refine T_of (fL_law_J1481.eq_1 ..) ?_
      refine T_of (fL_law_J2073.eq_1 ..) ?_
      refine T_let 6 (by decide +kernel) ?_
      exact hr _
theorem c_1484 {xs : Nat → Int32} {r : z_M → Int → z_O} {k : z_M → z_O} {P : z_V → z_M → Prop} {p1 p2 p3 p4 p5 : Int} (q1 : Int32.toInt (xs 1) = p1) (q2 : Int32.toInt (xs 2) = p2) (q3 : Int32.toInt (xs 3) = p3) (q4 : Int32.toInt (xs 4) = p4) (q5 : Int32.toInt (xs 5) = p5) (hr : ∀ s, z_T (r s 6) P) : z_T (fL_law_J1484 1000 6 xs z_s0 1 309 7658 0 r k) P := by
  refine T_of (fL_law_J1484.eq_1 ..) ?_
  refine T_let 1 (by decide +kernel) ?_
  refine T_if1 (by decide) ?_
  refine T_let p1 q1 ?_
  refine T_bI ?_
  refine T_of (fL_nearest.eq_1 ..) ?_
  refine T_if1 (by decide +kernel) ?_
  refine T_cI ?_
  refine T_of (fX11_nearest.eq_1 ..) ?_
  refine T_if1 (by decide +kernel) ?_
  refine T_bN ?_
  refine T_of (fX11_needWithin.eq_1 ..) ?_
  refine T_ite (fun h1 => ?_) (fun h1 => ?_)
  · refine T_of (fX11_needWithin_J10.eq_1 ..) ?_
    refine T_if1 (by decide +kernel) ?_
    refine T_let 0 (by decide +kernel) ?_
    refine T_let 1 (by decide +kernel) ?_
    refine T_if1 (by decide +kernel) ?_
    refine T_up ?_
    refine T_xN ?_
    refine T_x1I ?_
    refine T_rI ?_
    refine T_let 1 (by decide +kernel) ?_
    refine T_if1 (by decide) ?_
    refine T_let p1 q1 ?_
    refine T_if1 (by decide +kernel) ?_
    refine T_bI ?_
    refine T_of (fX12_nearest.eq_1 ..) ?_
    refine T_if1 (by decide +kernel) ?_
    refine T_up0 ((z_up_k (by decide)).trans (by decide +kernel)) ?_
    refine T_bI ?_
    refine T_of (fX12_in.eq_1 ..) ?_
    refine T_if1 (by omega) ?_
    refine T_of (fX12_in_J14.eq_1 ..) ?_
    refine T_of (fX12_in_J15.eq_1 ..) ?_
    refine T_if1 (by decide) ?_
    refine T_rI ?_
    refine T_if0 (by decide) ?_
    refine T_of (fX12_nearest_J20.eq_1 ..) ?_
    refine T_if1 (by decide +kernel) ?_
    refine T_bI ?_
    refine T_of (fX12_bad.eq_1 ..) ?_
    refine T_if0 (by decide) ?_
    refine T_if1 (by decide +kernel) ?_
    refine T_let 0 ((z_up_k (by decide)).trans (by decide +kernel)) ?_
    refine T_if0 (by decide) ?_
    refine T_if1 (by decide +kernel) ?_
    refine T_up ?_
    refine T_if1 (by decide +kernel) ?_
    refine T_let 310 (by decide +kernel) ?_
    refine T_if1 (by decide +kernel) ?_
    refine T_let 0 ((z_up_k (by decide)).trans ((z_up_k (by decide)).trans (by decide +kernel))) ?_
    refine T_let 1 (by decide +kernel) ?_
    refine T_if1 (by decide +kernel) ?_
    refine T_up ?_
    refine T_of (fX12_bad_J26.eq_1 ..) ?_
    refine T_if1 (by decide +kernel) ?_
    refine T_let 1 ((z_up_k (by decide)).trans z_up_s) ?_
    refine T_if0 (by decide) ?_
    refine T_of (fX12_bad_J38.eq_1 ..) ?_
    refine T_if1 (by decide) ?_
    refine T_rI ?_
    refine T_if0 (by decide) ?_
    refine T_rI ?_
    refine T_if1 (by decide +kernel) ?_
    refine T_bI ?_
    refine T_of (fX12_thrown.eq_1 ..) ?_
    refine T_if1 (by decide +kernel) ?_
    refine T_let 1 ((z_up_k (by decide)).trans z_up_s) ?_
    refine T_rI ?_
    refine T_if1 (by decide) ?_
    refine T_if1 (by decide) ?_
    refine T_of (fL_law_J1537.eq_1 ..) ?_
    refine T_of (fL_law_J2073.eq_1 ..) ?_
    refine T_let 6 (by decide +kernel) ?_
    exact hr _
  · refine T_ite (fun h2 => ?_) (fun h2 => ?_)
    · refine T_rN ?_
      refine T_if1 (by decide +kernel) ?_
      refine T_bN ?_
      refine T_of e_refresh ?_
      refine T_rN ?_
      refine T_of (fX11_nearest_L20.eq_2 ..) ?_
      refine T_if1 (by decide +kernel) ?_
      refine T_let 240 (by decide +kernel) ?_
      refine T_if1 (by decide +kernel) ?_
      refine T_let 0 ((z_up_k (by decide)).trans ((z_up_k (by decide)).trans (by decide +kernel))) ?_
      refine T_if1 (by decide) ?_
      refine T_ite (fun h3 => ?_) (fun h3 => ?_)
      · refine T_if0 (by decide) ?_
        refine T_of (fX11_nearest_J94.eq_1 ..) ?_
        refine T_rcI ?_
        refine T_if1 (by decide +kernel) ?_
        refine T_up ?_
        refine T_rI ?_
        refine T_let 1 (by decide +kernel) ?_
        refine T_if1 (by decide) ?_
        refine T_let p1 q1 ?_
        refine T_if1 (by decide +kernel) ?_
        refine T_bI ?_
        refine T_of (fX12_nearest.eq_1 ..) ?_
        refine T_if1 (by decide +kernel) ?_
        refine T_up0 ((z_up_k (by decide)).trans ((z_up_k (by decide)).trans ((z_up_k (by decide)).trans (by decide +kernel)))) ?_
        refine T_bI ?_
        refine T_of (fX12_in.eq_1 ..) ?_
        refine T_if0 (by omega) ?_
        refine T_if0 (by omega) ?_
        refine T_of (fX12_in_J15.eq_1 ..) ?_
        refine T_if1 (by decide) ?_
        refine T_rI ?_
        refine T_if1 (by decide) ?_
        refine T_of (fX12_nearest_J20.eq_1 ..) ?_
        refine T_if1 (by decide +kernel) ?_
        refine T_bI ?_
        refine T_of (fX12_bad.eq_1 ..) ?_
        refine T_if1 (by decide) ?_
        refine T_of (fX12_bad_J26.eq_1 ..) ?_
        refine T_if1 (by decide +kernel) ?_
        refine T_let 0 ((z_up_k (by decide)).trans ((z_up_k (by decide)).trans ((z_up_k (by decide)).trans (by decide +kernel)))) ?_
        refine T_if1 (by decide) ?_
        refine T_of (fX12_bad_J38.eq_1 ..) ?_
        refine T_if1 (by decide) ?_
        refine T_rI ?_
        refine T_if1 (by decide) ?_
        refine T_if1 (by decide +kernel) ?_
        refine T_bN ?_
        refine T_of (fX12_laysAll.eq_1 ..) ?_
        refine T_if1 (by decide +kernel) ?_
        refine T_bN ?_
        refine T_of (fX12_freshens.eq_1 ..) ?_
        refine T_if1 (by decide +kernel) ?_
        refine T_let 0 ((z_up_k (by decide)).trans ((z_up_k (by decide)).trans ((z_up_k (by decide)).trans (by decide +kernel)))) ?_
        refine T_if1 (by decide) ?_
        refine T_of (fX12_freshens_L10.eq_2 ..) ?_
        refine T_if1 (by decide +kernel) ?_
        refine T_let 0 ((z_up_k (by decide)).trans ((z_up_k (by decide)).trans ((z_up_k (by decide)).trans (by decide +kernel)))) ?_
        refine T_if1 (by decide) ?_
        refine T_if1 (by decide +kernel) ?_
        refine T_bN ?_
        refine T_of (fX12_laysPairs.eq_1 ..) ?_
        refine T_if1 (by decide +kernel) ?_
        refine T_up0 ((z_up_k (by decide)).trans ((z_up_k (by decide)).trans ((z_up_k (by decide)).trans (by decide +kernel)))) ?_
        refine T_if1 (by decide +kernel) ?_
        refine T_up0 ((z_up_k (by decide)).trans ((z_up_k (by decide)).trans ((z_up_k (by decide)).trans (by decide +kernel)))) ?_
        refine T_of (fX12_laysPairs_L14.eq_2 ..) ?_
        refine T_if1 (by decide +kernel) ?_
        refine T_let 0 ((z_up_k (by decide)).trans ((z_up_k (by decide)).trans ((z_up_k (by decide)).trans (by decide +kernel)))) ?_
        refine T_if1 (by decide) ?_
        refine T_rN ?_
        refine T_if1 (by decide +kernel) ?_
        refine T_up ?_
        refine T_if1 (by decide +kernel) ?_
        refine T_up0 ((z_up_j (by decide)).trans ((z_up_k (by decide)).trans ((z_up_k (by decide)).trans ((z_up_k (by decide)).trans (by decide +kernel))))) ?_
        refine T_rN ?_
        refine T_if1 (by decide +kernel) ?_
        refine T_let 0 ((z_up_j (by decide)).trans ((z_up_k (by decide)).trans ((z_up_k (by decide)).trans ((z_up_k (by decide)).trans (by decide +kernel))))) ?_
        refine T_if1 (by decide) ?_
        refine T_if1 (by decide +kernel) ?_
        refine T_let 312 (by decide +kernel) ?_
        refine T_if1 (by decide +kernel) ?_
        refine T_let 120 ((z_up_k (by decide)).trans ((z_up_k (by decide)).trans ((z_up_k (by decide)).trans ((z_up_k (by decide)).trans (by decide +kernel))))) ?_
        refine T_if1 (by decide +kernel) ?_
        refine T_let 312 (by decide +kernel) ?_
        refine T_if1 (by decide +kernel) ?_
        refine T_let 0 ((z_up_k (by decide)).trans ((z_up_k (by decide)).trans ((z_up_k (by decide)).trans ((z_up_k (by decide)).trans (by decide +kernel))))) ?_
        refine T_if1 (by decide +kernel) ?_
        refine T_bI ?_
        refine T_of (fX12_breaks.eq_1 ..) ?_
        refine T_if1 (by decide) ?_
        refine T_of (fX12_breaks_L15.eq_2 ..) ?_
        refine T_if1 (by decide +kernel) ?_
        refine T_let 0 ((z_up_j (by decide)).trans ((z_up_k (by decide)).trans ((z_up_k (by decide)).trans ((z_up_k (by decide)).trans (by decide +kernel))))) ?_
        refine T_if1 (by decide) ?_
        refine T_if1 (by decide +kernel) ?_
        refine T_let 3438 (by decide +kernel) ?_
        refine T_if1 (by decide +kernel) ?_
        refine T_let 0 ((z_up_j (by decide)).trans ((z_up_k (by decide)).trans ((z_up_k (by decide)).trans ((z_up_k (by decide)).trans (by decide +kernel))))) ?_
        refine T_if1 (by decide +kernel) ?_
        refine T_up0 ((z_up_k (by decide)).trans ((z_up_k (by decide)).trans ((z_up_k (by decide)).trans ((z_up_k (by decide)).trans (by decide +kernel))))) ?_
        refine T_rI ?_
        refine T_if1 (by decide +kernel) ?_
        refine T_up0 ((z_up_j (by decide)).trans ((z_up_k (by decide)).trans ((z_up_k (by decide)).trans ((z_up_k (by decide)).trans (by decide +kernel))))) ?_
        refine T_if1 (by decide +kernel) ?_
        refine T_up0 ((z_up_j (by decide)).trans ((z_up_k (by decide)).trans ((z_up_k (by decide)).trans ((z_up_k (by decide)).trans (by decide +kernel))))) ?_
        refine T_of (fX12_laysAll_L39.eq_2 ..) ?_
        refine T_if1 (by decide +kernel) ?_
        refine T_let 0 ((z_up_j (by decide)).trans ((z_up_k (by decide)).trans ((z_up_k (by decide)).trans ((z_up_k (by decide)).trans (by decide +kernel))))) ?_
        refine T_if1 (by decide) ?_
        refine T_if1 (by decide +kernel) ?_
        refine T_up ?_
        refine T_rN ?_
        refine T_of (fX12_nearest_L43.eq_2 ..) ?_
        refine T_if1 (by decide +kernel) ?_
        refine T_let 0 ((z_up_j (by decide)).trans ((z_up_j (by decide)).trans ((z_up_k (by decide)).trans ((z_up_k (by decide)).trans ((z_up_k (by decide)).trans (by decide +kernel)))))) ?_
        refine T_if1 (by decide) ?_
        refine T_if0 (by omega) ?_
        refine T_of (fX12_nearest_J171.eq_1 ..) ?_
        refine T_rI ?_
        refine T_if1 (by decide +kernel) ?_
        refine T_bI ?_
        refine T_of (fX12_thrown.eq_1 ..) ?_
        refine T_if1 (by decide +kernel) ?_
        refine T_let 0 ((z_up_j (by decide)).trans ((z_up_j (by decide)).trans ((z_up_k (by decide)).trans ((z_up_k (by decide)).trans ((z_up_k (by decide)).trans (by decide +kernel)))))) ?_
        refine T_rI ?_
        refine T_if1 (by decide) ?_
        refine T_if0 (by decide) ?_
        refine T_if1 (by decide +kernel) ?_
        refine T_let 999 ((z_up_k (by decide)).trans ((z_up_k (by decide)).trans z_up_s)) ?_
        refine T_let 0 (by decide +kernel) ?_
        refine T_if1 (by decide) ?_
        refine T_of (fL_law_J1537.eq_1 ..) ?_
        refine T_of (fL_law_J2073.eq_1 ..) ?_
        refine T_let 6 (by decide +kernel) ?_
        exact hr _
      · have h3 := Decidable.not_not.mp h3
        subst h3
        refine T_rcI ?_
        refine T_if1 (by decide +kernel) ?_
        refine T_up ?_
        refine T_rI ?_
        refine T_let 1 (by decide +kernel) ?_
        refine T_if1 (by decide) ?_
        refine T_let 1 q1 ?_
        refine T_if1 (by decide +kernel) ?_
        refine T_bI ?_
        refine T_of (fX12_nearest.eq_1 ..) ?_
        refine T_if1 (by decide +kernel) ?_
        refine T_up0 ((z_up_k (by decide)).trans ((z_up_k (by decide)).trans ((z_up_k (by decide)).trans (by decide +kernel)))) ?_
        refine T_bI ?_
        refine T_of (fX12_in.eq_1 ..) ?_
        refine T_if0 (by decide) ?_
        refine T_if0 (by decide) ?_
        refine T_of (fX12_in_J15.eq_1 ..) ?_
        refine T_if1 (by decide) ?_
        refine T_rI ?_
        refine T_if1 (by decide) ?_
        refine T_of (fX12_nearest_J20.eq_1 ..) ?_
        refine T_if1 (by decide +kernel) ?_
        refine T_bI ?_
        refine T_of (fX12_bad.eq_1 ..) ?_
        refine T_if1 (by decide) ?_
        refine T_of (fX12_bad_J26.eq_1 ..) ?_
        refine T_if1 (by decide +kernel) ?_
        refine T_let 0 ((z_up_k (by decide)).trans ((z_up_k (by decide)).trans ((z_up_k (by decide)).trans (by decide +kernel)))) ?_
        refine T_if1 (by decide) ?_
        refine T_of (fX12_bad_J38.eq_1 ..) ?_
        refine T_if1 (by decide) ?_
        refine T_rI ?_
        refine T_if1 (by decide) ?_
        refine T_if1 (by decide +kernel) ?_
        refine T_bN ?_
        refine T_of (fX12_laysAll.eq_1 ..) ?_
        refine T_if1 (by decide +kernel) ?_
        refine T_bN ?_
        refine T_of (fX12_freshens.eq_1 ..) ?_
        refine T_if1 (by decide +kernel) ?_
        refine T_let 0 ((z_up_k (by decide)).trans ((z_up_k (by decide)).trans ((z_up_k (by decide)).trans (by decide +kernel)))) ?_
        refine T_if1 (by decide) ?_
        refine T_of (fX12_freshens_L10.eq_2 ..) ?_
        refine T_if1 (by decide +kernel) ?_
        refine T_let 0 ((z_up_k (by decide)).trans ((z_up_k (by decide)).trans ((z_up_k (by decide)).trans (by decide +kernel)))) ?_
        refine T_if1 (by decide) ?_
        refine T_if1 (by decide +kernel) ?_
        refine T_bN ?_
        refine T_of (fX12_laysPairs.eq_1 ..) ?_
        refine T_if1 (by decide +kernel) ?_
        refine T_up0 ((z_up_k (by decide)).trans ((z_up_k (by decide)).trans ((z_up_k (by decide)).trans (by decide +kernel)))) ?_
        refine T_if1 (by decide +kernel) ?_
        refine T_up0 ((z_up_k (by decide)).trans ((z_up_k (by decide)).trans ((z_up_k (by decide)).trans (by decide +kernel)))) ?_
        refine T_of (fX12_laysPairs_L14.eq_2 ..) ?_
        refine T_if1 (by decide +kernel) ?_
        refine T_let 0 ((z_up_k (by decide)).trans ((z_up_k (by decide)).trans ((z_up_k (by decide)).trans (by decide +kernel)))) ?_
        refine T_if1 (by decide) ?_
        refine T_rN ?_
        refine T_if1 (by decide +kernel) ?_
        refine T_up ?_
        refine T_if1 (by decide +kernel) ?_
        refine T_up0 ((z_up_j (by decide)).trans ((z_up_k (by decide)).trans ((z_up_k (by decide)).trans ((z_up_k (by decide)).trans (by decide +kernel))))) ?_
        refine T_rN ?_
        refine T_if1 (by decide +kernel) ?_
        refine T_let 0 ((z_up_j (by decide)).trans ((z_up_k (by decide)).trans ((z_up_k (by decide)).trans ((z_up_k (by decide)).trans (by decide +kernel))))) ?_
        refine T_if1 (by decide) ?_
        refine T_if1 (by decide +kernel) ?_
        refine T_let 312 (by decide +kernel) ?_
        refine T_if1 (by decide +kernel) ?_
        refine T_let 120 ((z_up_k (by decide)).trans ((z_up_k (by decide)).trans ((z_up_k (by decide)).trans ((z_up_k (by decide)).trans (by decide +kernel))))) ?_
        refine T_if1 (by decide +kernel) ?_
        refine T_let 312 (by decide +kernel) ?_
        refine T_if1 (by decide +kernel) ?_
        refine T_let 0 ((z_up_k (by decide)).trans ((z_up_k (by decide)).trans ((z_up_k (by decide)).trans ((z_up_k (by decide)).trans (by decide +kernel))))) ?_
        refine T_if1 (by decide +kernel) ?_
        refine T_bI ?_
        refine T_of (fX12_breaks.eq_1 ..) ?_
        refine T_if1 (by decide) ?_
        refine T_of (fX12_breaks_L15.eq_2 ..) ?_
        refine T_if1 (by decide +kernel) ?_
        refine T_let 0 ((z_up_j (by decide)).trans ((z_up_k (by decide)).trans ((z_up_k (by decide)).trans ((z_up_k (by decide)).trans (by decide +kernel))))) ?_
        refine T_if1 (by decide) ?_
        refine T_if1 (by decide +kernel) ?_
        refine T_let 3438 (by decide +kernel) ?_
        refine T_if1 (by decide +kernel) ?_
        refine T_let 0 ((z_up_j (by decide)).trans ((z_up_k (by decide)).trans ((z_up_k (by decide)).trans ((z_up_k (by decide)).trans (by decide +kernel))))) ?_
        refine T_if1 (by decide +kernel) ?_
        refine T_up0 ((z_up_k (by decide)).trans ((z_up_k (by decide)).trans ((z_up_k (by decide)).trans ((z_up_k (by decide)).trans (by decide +kernel))))) ?_
        refine T_rI ?_
        refine T_if1 (by decide +kernel) ?_
        refine T_up0 ((z_up_j (by decide)).trans ((z_up_k (by decide)).trans ((z_up_k (by decide)).trans ((z_up_k (by decide)).trans (by decide +kernel))))) ?_
        refine T_if1 (by decide +kernel) ?_
        refine T_up0 ((z_up_j (by decide)).trans ((z_up_k (by decide)).trans ((z_up_k (by decide)).trans ((z_up_k (by decide)).trans (by decide +kernel))))) ?_
        refine T_of (fX12_laysAll_L39.eq_2 ..) ?_
        refine T_if1 (by decide +kernel) ?_
        refine T_let 0 ((z_up_j (by decide)).trans ((z_up_k (by decide)).trans ((z_up_k (by decide)).trans ((z_up_k (by decide)).trans (by decide +kernel))))) ?_
        refine T_if1 (by decide) ?_
        refine T_if1 (by decide +kernel) ?_
        refine T_up ?_
        refine T_rN ?_
        refine T_of (fX12_nearest_L43.eq_2 ..) ?_
        refine T_if1 (by decide +kernel) ?_
        refine T_let 0 ((z_up_j (by decide)).trans ((z_up_j (by decide)).trans ((z_up_k (by decide)).trans ((z_up_k (by decide)).trans ((z_up_k (by decide)).trans (by decide +kernel)))))) ?_
        refine T_if1 (by decide) ?_
        refine T_if1 (by decide) ?_
        refine T_of (fX12_nearest_J171.eq_1 ..) ?_
        refine T_rI ?_
        refine T_if1 (by decide +kernel) ?_
        refine T_bI ?_
        refine T_of (fX12_thrown.eq_1 ..) ?_
        refine T_if1 (by decide +kernel) ?_
        refine T_let 0 ((z_up_j (by decide)).trans ((z_up_j (by decide)).trans ((z_up_k (by decide)).trans ((z_up_k (by decide)).trans ((z_up_k (by decide)).trans (by decide +kernel)))))) ?_
        refine T_rI ?_
        refine T_if1 (by decide) ?_
        refine T_if0 (by decide) ?_
        refine T_if1 (by decide +kernel) ?_
        refine T_let (-1) ((z_up_k (by decide)).trans ((z_up_k (by decide)).trans z_up_s)) ?_
        refine T_let 0 (by decide +kernel) ?_
        refine T_if1 (by decide) ?_
        refine T_of (fL_law_J1537.eq_1 ..) ?_
        refine T_of (fL_law_J2073.eq_1 ..) ?_
        refine T_let 6 (by decide +kernel) ?_
        exact hr _
    · refine T_of (fX11_needWithin_J10.eq_1 ..) ?_
      refine T_if1 (by decide +kernel) ?_
      refine T_let 0 (by decide +kernel) ?_
      refine T_let 1 (by decide +kernel) ?_
      refine T_if1 (by decide +kernel) ?_
      refine T_up ?_
      refine T_xN ?_
      refine T_x1I ?_
      refine T_rI ?_
      refine T_let 1 (by decide +kernel) ?_
      refine T_if1 (by decide) ?_
      refine T_let p1 q1 ?_
      refine T_if1 (by decide +kernel) ?_
      refine T_bI ?_
      refine T_of (fX12_nearest.eq_1 ..) ?_
      refine T_if1 (by decide +kernel) ?_
      refine T_up0 ((z_up_k (by decide)).trans (by decide +kernel)) ?_
      refine T_bI ?_
      refine T_of (fX12_in.eq_1 ..) ?_
      refine T_if0 (by omega) ?_
      refine T_if1 (by omega) ?_
      refine T_of (fX12_in_J14.eq_1 ..) ?_
      refine T_of (fX12_in_J15.eq_1 ..) ?_
      refine T_if1 (by decide) ?_
      refine T_rI ?_
      refine T_if0 (by decide) ?_
      refine T_of (fX12_nearest_J20.eq_1 ..) ?_
      refine T_if1 (by decide +kernel) ?_
      refine T_bI ?_
      refine T_of (fX12_bad.eq_1 ..) ?_
      refine T_if0 (by decide) ?_
      refine T_if1 (by decide +kernel) ?_
      refine T_let 0 ((z_up_k (by decide)).trans (by decide +kernel)) ?_
      refine T_if0 (by decide) ?_
      refine T_if1 (by decide +kernel) ?_
      refine T_up ?_
      refine T_if1 (by decide +kernel) ?_
      refine T_let 310 (by decide +kernel) ?_
      refine T_if1 (by decide +kernel) ?_
      refine T_let 0 ((z_up_k (by decide)).trans ((z_up_k (by decide)).trans (by decide +kernel))) ?_
      refine T_let 1 (by decide +kernel) ?_
      refine T_if1 (by decide +kernel) ?_
      refine T_up ?_
      refine T_of (fX12_bad_J26.eq_1 ..) ?_
      refine T_if1 (by decide +kernel) ?_
      refine T_let 1 ((z_up_k (by decide)).trans z_up_s) ?_
      refine T_if0 (by decide) ?_
      refine T_of (fX12_bad_J38.eq_1 ..) ?_
      refine T_if1 (by decide) ?_
      refine T_rI ?_
      refine T_if0 (by decide) ?_
      refine T_rI ?_
      refine T_if1 (by decide +kernel) ?_
      refine T_bI ?_
      refine T_of (fX12_thrown.eq_1 ..) ?_
      refine T_if1 (by decide +kernel) ?_
      refine T_let 1 ((z_up_k (by decide)).trans z_up_s) ?_
      refine T_rI ?_
      refine T_if1 (by decide) ?_
      refine T_if1 (by decide) ?_
      refine T_of (fL_law_J1537.eq_1 ..) ?_
      refine T_of (fL_law_J2073.eq_1 ..) ?_
      refine T_let 6 (by decide +kernel) ?_
      exact hr _
theorem c_1540 {xs : Nat → Int32} {r : z_M → Int → z_O} {k : z_M → z_O} {P : z_V → z_M → Prop} {p1 p2 p3 p4 p5 : Int} (q1 : Int32.toInt (xs 1) = p1) (q2 : Int32.toInt (xs 2) = p2) (q3 : Int32.toInt (xs 3) = p3) (q4 : Int32.toInt (xs 4) = p4) (q5 : Int32.toInt (xs 5) = p5) (hr : ∀ s, z_T (r s 6) P) : z_T (fL_law_J1540 1000 6 xs z_s0 1 309 7658 0 r k) P := by
  refine T_of (fL_law_J1540.eq_1 ..) ?_
  refine T_let 1 (by decide +kernel) ?_
  refine T_if1 (by decide) ?_
  refine T_let p1 q1 ?_
  refine T_bI ?_
  refine T_of (fL_partner.eq_1 ..) ?_
  refine T_if1 (by decide +kernel) ?_
  refine T_cI ?_
  refine T_of (fX11_partner.eq_1 ..) ?_
  refine T_if1 (by decide +kernel) ?_
  refine T_bN ?_
  refine T_of e_refresh ?_
  refine T_rN ?_
  refine T_if1 (by decide +kernel) ?_
  refine T_let 191 (by decide +kernel) ?_
  refine T_if1 (by decide +kernel) ?_
  refine T_let 0 ((z_up_k (by decide)).trans ((z_up_k (by decide)).trans (by decide +kernel))) ?_
  refine T_if1 (by decide +kernel) ?_
  refine T_bN ?_
  refine T_of (fX11_needExisting.eq_1 ..) ?_
  refine T_ite (fun h1 => ?_) (fun h1 => ?_)
  · refine T_of (fX11_needExisting_J9.eq_1 ..) ?_
    refine T_if1 (by decide +kernel) ?_
    refine T_let 0 ((z_up_j (by decide)).trans ((z_up_j (by decide)).trans (by decide +kernel))) ?_
    refine T_let 1 (by decide +kernel) ?_
    refine T_if1 (by decide +kernel) ?_
    refine T_up ?_
    refine T_xN ?_
    refine T_x0I ?_
    refine T_rI ?_
    refine T_let 1 (by decide +kernel) ?_
    refine T_if1 (by decide) ?_
    refine T_let p1 q1 ?_
    refine T_if1 (by decide +kernel) ?_
    refine T_bI ?_
    refine T_of (fX12_partner.eq_1 ..) ?_
    refine T_if1 (by decide +kernel) ?_
    refine T_up0 ((z_up_k (by decide)).trans ((z_up_k (by decide)).trans ((z_up_k (by decide)).trans (by decide +kernel)))) ?_
    refine T_if1 (by decide +kernel) ?_
    refine T_bI ?_
    refine T_of (fX12_isUnit.eq_1 ..) ?_
    refine T_if1 (by decide +kernel) ?_
    refine T_let 0 ((z_up_k (by decide)).trans ((z_up_k (by decide)).trans ((z_up_k (by decide)).trans (by decide +kernel)))) ?_
    refine T_let (-1) (by decide +kernel) ?_
    refine T_bI ?_
    refine T_of (fX12_in.eq_1 ..) ?_
    refine T_if1 (by omega) ?_
    refine T_of (fX12_in_J14.eq_1 ..) ?_
    refine T_of (fX12_in_J15.eq_1 ..) ?_
    refine T_if1 (by decide) ?_
    refine T_rI ?_
    refine T_if1 (by decide) ?_
    refine T_rI ?_
    refine T_if0 (by decide) ?_
    refine T_of (fX12_partner_J19.eq_1 ..) ?_
    refine T_if1 (by decide +kernel) ?_
    refine T_bI ?_
    refine T_of (fX12_bad.eq_1 ..) ?_
    refine T_if0 (by decide) ?_
    refine T_if1 (by decide +kernel) ?_
    refine T_let 0 ((z_up_k (by decide)).trans ((z_up_k (by decide)).trans ((z_up_k (by decide)).trans (by decide +kernel)))) ?_
    refine T_if0 (by decide) ?_
    refine T_if1 (by decide +kernel) ?_
    refine T_up ?_
    refine T_if1 (by decide +kernel) ?_
    refine T_let 310 (by decide +kernel) ?_
    refine T_if1 (by decide +kernel) ?_
    refine T_let 0 ((z_up_k (by decide)).trans ((z_up_k (by decide)).trans ((z_up_k (by decide)).trans ((z_up_k (by decide)).trans (by decide +kernel))))) ?_
    refine T_let 1 (by decide +kernel) ?_
    refine T_if1 (by decide +kernel) ?_
    refine T_up ?_
    refine T_of (fX12_bad_J26.eq_1 ..) ?_
    refine T_if1 (by decide +kernel) ?_
    refine T_let 1 ((z_up_k (by decide)).trans z_up_s) ?_
    refine T_if0 (by decide) ?_
    refine T_of (fX12_bad_J38.eq_1 ..) ?_
    refine T_if1 (by decide) ?_
    refine T_rI ?_
    refine T_if0 (by decide) ?_
    refine T_rI ?_
    refine T_if1 (by decide +kernel) ?_
    refine T_bI ?_
    refine T_of (fX12_thrown.eq_1 ..) ?_
    refine T_if1 (by decide +kernel) ?_
    refine T_let 1 ((z_up_k (by decide)).trans z_up_s) ?_
    refine T_rI ?_
    refine T_if1 (by decide) ?_
    refine T_if1 (by decide) ?_
    refine T_of (fL_law_J1593.eq_1 ..) ?_
    refine T_of (fL_law_J2073.eq_1 ..) ?_
    refine T_let 6 (by decide +kernel) ?_
    exact hr _
  · refine T_if0 (by omega) ?_
    refine T_of (fX11_needExisting_J9.eq_1 ..) ?_
    refine T_if1 (by decide +kernel) ?_
    refine T_let 0 ((z_up_j (by decide)).trans ((z_up_j (by decide)).trans (by decide +kernel))) ?_
    refine T_let 1 (by decide +kernel) ?_
    refine T_if1 (by decide +kernel) ?_
    refine T_up ?_
    refine T_xN ?_
    refine T_x0I ?_
    refine T_rI ?_
    refine T_let 1 (by decide +kernel) ?_
    refine T_if1 (by decide) ?_
    refine T_let p1 q1 ?_
    refine T_if1 (by decide +kernel) ?_
    refine T_bI ?_
    refine T_of (fX12_partner.eq_1 ..) ?_
    refine T_if1 (by decide +kernel) ?_
    refine T_up0 ((z_up_k (by decide)).trans ((z_up_k (by decide)).trans ((z_up_k (by decide)).trans (by decide +kernel)))) ?_
    refine T_if1 (by decide +kernel) ?_
    refine T_bI ?_
    refine T_of (fX12_isUnit.eq_1 ..) ?_
    refine T_if1 (by decide +kernel) ?_
    refine T_let 0 ((z_up_k (by decide)).trans ((z_up_k (by decide)).trans ((z_up_k (by decide)).trans (by decide +kernel)))) ?_
    refine T_let (-1) (by decide +kernel) ?_
    refine T_bI ?_
    refine T_of (fX12_in.eq_1 ..) ?_
    refine T_if0 (by omega) ?_
    refine T_if1 (by omega) ?_
    refine T_of (fX12_in_J14.eq_1 ..) ?_
    refine T_of (fX12_in_J15.eq_1 ..) ?_
    refine T_if1 (by decide) ?_
    refine T_rI ?_
    refine T_if1 (by decide) ?_
    refine T_rI ?_
    refine T_if0 (by decide) ?_
    refine T_of (fX12_partner_J19.eq_1 ..) ?_
    refine T_if1 (by decide +kernel) ?_
    refine T_bI ?_
    refine T_of (fX12_bad.eq_1 ..) ?_
    refine T_if0 (by decide) ?_
    refine T_if1 (by decide +kernel) ?_
    refine T_let 0 ((z_up_k (by decide)).trans ((z_up_k (by decide)).trans ((z_up_k (by decide)).trans (by decide +kernel)))) ?_
    refine T_if0 (by decide) ?_
    refine T_if1 (by decide +kernel) ?_
    refine T_up ?_
    refine T_if1 (by decide +kernel) ?_
    refine T_let 310 (by decide +kernel) ?_
    refine T_if1 (by decide +kernel) ?_
    refine T_let 0 ((z_up_k (by decide)).trans ((z_up_k (by decide)).trans ((z_up_k (by decide)).trans ((z_up_k (by decide)).trans (by decide +kernel))))) ?_
    refine T_let 1 (by decide +kernel) ?_
    refine T_if1 (by decide +kernel) ?_
    refine T_up ?_
    refine T_of (fX12_bad_J26.eq_1 ..) ?_
    refine T_if1 (by decide +kernel) ?_
    refine T_let 1 ((z_up_k (by decide)).trans z_up_s) ?_
    refine T_if0 (by decide) ?_
    refine T_of (fX12_bad_J38.eq_1 ..) ?_
    refine T_if1 (by decide) ?_
    refine T_rI ?_
    refine T_if0 (by decide) ?_
    refine T_rI ?_
    refine T_if1 (by decide +kernel) ?_
    refine T_bI ?_
    refine T_of (fX12_thrown.eq_1 ..) ?_
    refine T_if1 (by decide +kernel) ?_
    refine T_let 1 ((z_up_k (by decide)).trans z_up_s) ?_
    refine T_rI ?_
    refine T_if1 (by decide) ?_
    refine T_if1 (by decide) ?_
    refine T_of (fL_law_J1593.eq_1 ..) ?_
    refine T_of (fL_law_J2073.eq_1 ..) ?_
    refine T_let 6 (by decide +kernel) ?_
    exact hr _
theorem c_1596 {xs : Nat → Int32} {r : z_M → Int → z_O} {k : z_M → z_O} {P : z_V → z_M → Prop} {p1 p2 p3 p4 p5 : Int} (q1 : Int32.toInt (xs 1) = p1) (q2 : Int32.toInt (xs 2) = p2) (q3 : Int32.toInt (xs 3) = p3) (q4 : Int32.toInt (xs 4) = p4) (q5 : Int32.toInt (xs 5) = p5) (hr : ∀ s, z_T (r s 6) P) : z_T (fL_law_J1596 1000 6 xs z_s0 1 309 7658 0 r k) P := by
  refine T_of (fL_law_J1596.eq_1 ..) ?_
  refine T_let 1 (by decide +kernel) ?_
  refine T_if1 (by decide) ?_
  refine T_let p1 q1 ?_
  refine T_let 2 (by decide +kernel) ?_
  refine T_if1 (by decide) ?_
  refine T_let p2 q2 ?_
  refine T_let 3 (by decide +kernel) ?_
  refine T_if1 (by decide) ?_
  refine T_let p3 q3 ?_
  refine T_bI ?_
  refine T_of (fL_side.eq_1 ..) ?_
  refine T_if1 (by decide +kernel) ?_
  refine T_cI ?_
  refine T_of (fX11_side.eq_1 ..) ?_
  refine T_if1 (by decide +kernel) ?_
  refine T_bN ?_
  refine T_of e_refresh ?_
  refine T_rN ?_
  refine T_if1 (by decide +kernel) ?_
  refine T_let 240 (by decide +kernel) ?_
  refine T_if1 (by decide +kernel) ?_
  refine T_let 0 ((z_up_k (by decide)).trans ((z_up_k (by decide)).trans (by decide +kernel))) ?_
  refine T_if1 (by decide +kernel) ?_
  refine T_bN ?_
  refine T_of (fX11_needExisting.eq_1 ..) ?_
  refine T_ite (fun h1 => ?_) (fun h1 => ?_)
  · refine T_of (fX11_needExisting_J9.eq_1 ..) ?_
    refine T_if1 (by decide +kernel) ?_
    refine T_let 0 ((z_up_j (by decide)).trans ((z_up_j (by decide)).trans (by decide +kernel))) ?_
    refine T_let 1 (by decide +kernel) ?_
    refine T_if1 (by decide +kernel) ?_
    refine T_up ?_
    refine T_xN ?_
    refine T_x0I ?_
    refine T_rI ?_
    refine T_let 1 (by decide +kernel) ?_
    refine T_if1 (by decide) ?_
    refine T_let p1 q1 ?_
    refine T_let 2 (by decide +kernel) ?_
    refine T_if1 (by decide) ?_
    refine T_let p2 q2 ?_
    refine T_let 3 (by decide +kernel) ?_
    refine T_if1 (by decide) ?_
    refine T_let p3 q3 ?_
    refine T_if1 (by decide +kernel) ?_
    refine T_bI ?_
    refine T_of (fX12_side.eq_1 ..) ?_
    refine T_if1 (by decide +kernel) ?_
    refine T_up0 ((z_up_k (by decide)).trans ((z_up_k (by decide)).trans ((z_up_k (by decide)).trans (by decide +kernel)))) ?_
    refine T_if1 (by decide +kernel) ?_
    refine T_bI ?_
    refine T_of (fX12_isLine.eq_1 ..) ?_
    refine T_if1 (by decide +kernel) ?_
    refine T_bN ?_
    refine T_of (fX12_laysAll.eq_1 ..) ?_
    refine T_if1 (by decide +kernel) ?_
    refine T_bN ?_
    refine T_of (fX12_freshens.eq_1 ..) ?_
    refine T_if1 (by decide +kernel) ?_
    refine T_let 0 ((z_up_k (by decide)).trans ((z_up_k (by decide)).trans ((z_up_k (by decide)).trans (by decide +kernel)))) ?_
    refine T_if1 (by decide) ?_
    refine T_of (fX12_freshens_L10.eq_2 ..) ?_
    refine T_if1 (by decide +kernel) ?_
    refine T_let 0 ((z_up_k (by decide)).trans ((z_up_k (by decide)).trans ((z_up_k (by decide)).trans (by decide +kernel)))) ?_
    refine T_if1 (by decide) ?_
    refine T_if1 (by decide +kernel) ?_
    refine T_bN ?_
    refine T_of (fX12_laysPairs.eq_1 ..) ?_
    refine T_if1 (by decide +kernel) ?_
    refine T_up0 ((z_up_k (by decide)).trans ((z_up_k (by decide)).trans ((z_up_k (by decide)).trans (by decide +kernel)))) ?_
    refine T_if1 (by decide +kernel) ?_
    refine T_up0 ((z_up_k (by decide)).trans ((z_up_k (by decide)).trans ((z_up_k (by decide)).trans (by decide +kernel)))) ?_
    refine T_of (fX12_laysPairs_L14.eq_2 ..) ?_
    refine T_if1 (by decide +kernel) ?_
    refine T_let 0 ((z_up_k (by decide)).trans ((z_up_k (by decide)).trans ((z_up_k (by decide)).trans (by decide +kernel)))) ?_
    refine T_if1 (by decide) ?_
    refine T_rN ?_
    refine T_if1 (by decide +kernel) ?_
    refine T_up ?_
    refine T_if1 (by decide +kernel) ?_
    refine T_up0 ((z_up_j (by decide)).trans ((z_up_k (by decide)).trans ((z_up_k (by decide)).trans ((z_up_k (by decide)).trans (by decide +kernel))))) ?_
    refine T_rN ?_
    refine T_if1 (by decide +kernel) ?_
    refine T_let 0 ((z_up_j (by decide)).trans ((z_up_k (by decide)).trans ((z_up_k (by decide)).trans ((z_up_k (by decide)).trans (by decide +kernel))))) ?_
    refine T_if1 (by decide) ?_
    refine T_if1 (by decide +kernel) ?_
    refine T_let 312 (by decide +kernel) ?_
    refine T_if1 (by decide +kernel) ?_
    refine T_let 120 ((z_up_k (by decide)).trans ((z_up_k (by decide)).trans ((z_up_k (by decide)).trans ((z_up_k (by decide)).trans (by decide +kernel))))) ?_
    refine T_if1 (by decide +kernel) ?_
    refine T_let 312 (by decide +kernel) ?_
    refine T_if1 (by decide +kernel) ?_
    refine T_let 0 ((z_up_k (by decide)).trans ((z_up_k (by decide)).trans ((z_up_k (by decide)).trans ((z_up_k (by decide)).trans (by decide +kernel))))) ?_
    refine T_if1 (by decide +kernel) ?_
    refine T_bI ?_
    refine T_of (fX12_breaks.eq_1 ..) ?_
    refine T_if1 (by decide) ?_
    refine T_of (fX12_breaks_L15.eq_2 ..) ?_
    refine T_if1 (by decide +kernel) ?_
    refine T_let 0 ((z_up_j (by decide)).trans ((z_up_k (by decide)).trans ((z_up_k (by decide)).trans ((z_up_k (by decide)).trans (by decide +kernel))))) ?_
    refine T_if1 (by decide) ?_
    refine T_if1 (by decide +kernel) ?_
    refine T_let 3438 (by decide +kernel) ?_
    refine T_if1 (by decide +kernel) ?_
    refine T_let 0 ((z_up_j (by decide)).trans ((z_up_k (by decide)).trans ((z_up_k (by decide)).trans ((z_up_k (by decide)).trans (by decide +kernel))))) ?_
    refine T_if1 (by decide +kernel) ?_
    refine T_up0 ((z_up_k (by decide)).trans ((z_up_k (by decide)).trans ((z_up_k (by decide)).trans ((z_up_k (by decide)).trans (by decide +kernel))))) ?_
    refine T_rI ?_
    refine T_if1 (by decide +kernel) ?_
    refine T_up0 ((z_up_j (by decide)).trans ((z_up_k (by decide)).trans ((z_up_k (by decide)).trans ((z_up_k (by decide)).trans (by decide +kernel))))) ?_
    refine T_if1 (by decide +kernel) ?_
    refine T_up0 ((z_up_j (by decide)).trans ((z_up_k (by decide)).trans ((z_up_k (by decide)).trans ((z_up_k (by decide)).trans (by decide +kernel))))) ?_
    refine T_of (fX12_laysAll_L39.eq_2 ..) ?_
    refine T_if1 (by decide +kernel) ?_
    refine T_let 0 ((z_up_j (by decide)).trans ((z_up_k (by decide)).trans ((z_up_k (by decide)).trans ((z_up_k (by decide)).trans (by decide +kernel))))) ?_
    refine T_if1 (by decide) ?_
    refine T_if1 (by decide +kernel) ?_
    refine T_up ?_
    refine T_rN ?_
    refine T_if1 (by decide +kernel) ?_
    refine T_let 0 ((z_up_j (by decide)).trans ((z_up_j (by decide)).trans ((z_up_k (by decide)).trans ((z_up_k (by decide)).trans ((z_up_k (by decide)).trans (by decide +kernel)))))) ?_
    refine T_let (-1) (by decide +kernel) ?_
    refine T_bI ?_
    refine T_of (fX12_in.eq_1 ..) ?_
    refine T_if1 (by omega) ?_
    refine T_of (fX12_in_J14.eq_1 ..) ?_
    refine T_of (fX12_in_J15.eq_1 ..) ?_
    refine T_if1 (by decide) ?_
    refine T_rI ?_
    refine T_if1 (by decide) ?_
    refine T_rI ?_
    refine T_if0 (by decide) ?_
    refine T_of (fX12_side_J19.eq_1 ..) ?_
    refine T_if1 (by decide +kernel) ?_
    refine T_bI ?_
    refine T_of (fX12_bad.eq_1 ..) ?_
    refine T_if0 (by decide) ?_
    refine T_if1 (by decide +kernel) ?_
    refine T_let 0 ((z_up_j (by decide)).trans ((z_up_j (by decide)).trans ((z_up_k (by decide)).trans ((z_up_k (by decide)).trans ((z_up_k (by decide)).trans (by decide +kernel)))))) ?_
    refine T_if0 (by decide) ?_
    refine T_if1 (by decide +kernel) ?_
    refine T_up ?_
    refine T_if1 (by decide +kernel) ?_
    refine T_let 310 (by decide +kernel) ?_
    refine T_if1 (by decide +kernel) ?_
    refine T_let 0 ((z_up_k (by decide)).trans ((z_up_k (by decide)).trans ((z_up_k (by decide)).trans ((z_up_k (by decide)).trans ((z_up_k (by decide)).trans ((z_up_k (by decide)).trans (by decide +kernel))))))) ?_
    refine T_let 1 (by decide +kernel) ?_
    refine T_if1 (by decide +kernel) ?_
    refine T_up ?_
    refine T_of (fX12_bad_J26.eq_1 ..) ?_
    refine T_if1 (by decide +kernel) ?_
    refine T_let 1 ((z_up_k (by decide)).trans z_up_s) ?_
    refine T_if0 (by decide) ?_
    refine T_of (fX12_bad_J38.eq_1 ..) ?_
    refine T_if1 (by decide) ?_
    refine T_rI ?_
    refine T_if1 (by decide) ?_
    refine T_of (fX12_side_J59.eq_1 ..) ?_
    refine T_rI ?_
    refine T_if1 (by decide +kernel) ?_
    refine T_bI ?_
    refine T_of (fX12_thrown.eq_1 ..) ?_
    refine T_if1 (by decide +kernel) ?_
    refine T_let 1 ((z_up_k (by decide)).trans z_up_s) ?_
    refine T_rI ?_
    refine T_if1 (by decide) ?_
    refine T_if1 (by decide) ?_
    refine T_of (fL_law_J1673.eq_1 ..) ?_
    refine T_of (fL_law_J2073.eq_1 ..) ?_
    refine T_let 6 (by decide +kernel) ?_
    exact hr _
  · refine T_if0 (by omega) ?_
    refine T_of (fX11_needExisting_J9.eq_1 ..) ?_
    refine T_if1 (by decide +kernel) ?_
    refine T_let 0 ((z_up_j (by decide)).trans ((z_up_j (by decide)).trans (by decide +kernel))) ?_
    refine T_let 1 (by decide +kernel) ?_
    refine T_if1 (by decide +kernel) ?_
    refine T_up ?_
    refine T_xN ?_
    refine T_x0I ?_
    refine T_rI ?_
    refine T_let 1 (by decide +kernel) ?_
    refine T_if1 (by decide) ?_
    refine T_let p1 q1 ?_
    refine T_let 2 (by decide +kernel) ?_
    refine T_if1 (by decide) ?_
    refine T_let p2 q2 ?_
    refine T_let 3 (by decide +kernel) ?_
    refine T_if1 (by decide) ?_
    refine T_let p3 q3 ?_
    refine T_if1 (by decide +kernel) ?_
    refine T_bI ?_
    refine T_of (fX12_side.eq_1 ..) ?_
    refine T_if1 (by decide +kernel) ?_
    refine T_up0 ((z_up_k (by decide)).trans ((z_up_k (by decide)).trans ((z_up_k (by decide)).trans (by decide +kernel)))) ?_
    refine T_if1 (by decide +kernel) ?_
    refine T_bI ?_
    refine T_of (fX12_isLine.eq_1 ..) ?_
    refine T_if1 (by decide +kernel) ?_
    refine T_bN ?_
    refine T_of (fX12_laysAll.eq_1 ..) ?_
    refine T_if1 (by decide +kernel) ?_
    refine T_bN ?_
    refine T_of (fX12_freshens.eq_1 ..) ?_
    refine T_if1 (by decide +kernel) ?_
    refine T_let 0 ((z_up_k (by decide)).trans ((z_up_k (by decide)).trans ((z_up_k (by decide)).trans (by decide +kernel)))) ?_
    refine T_if1 (by decide) ?_
    refine T_of (fX12_freshens_L10.eq_2 ..) ?_
    refine T_if1 (by decide +kernel) ?_
    refine T_let 0 ((z_up_k (by decide)).trans ((z_up_k (by decide)).trans ((z_up_k (by decide)).trans (by decide +kernel)))) ?_
    refine T_if1 (by decide) ?_
    refine T_if1 (by decide +kernel) ?_
    refine T_bN ?_
    refine T_of (fX12_laysPairs.eq_1 ..) ?_
    refine T_if1 (by decide +kernel) ?_
    refine T_up0 ((z_up_k (by decide)).trans ((z_up_k (by decide)).trans ((z_up_k (by decide)).trans (by decide +kernel)))) ?_
    refine T_if1 (by decide +kernel) ?_
    refine T_up0 ((z_up_k (by decide)).trans ((z_up_k (by decide)).trans ((z_up_k (by decide)).trans (by decide +kernel)))) ?_
    refine T_of (fX12_laysPairs_L14.eq_2 ..) ?_
    refine T_if1 (by decide +kernel) ?_
    refine T_let 0 ((z_up_k (by decide)).trans ((z_up_k (by decide)).trans ((z_up_k (by decide)).trans (by decide +kernel)))) ?_
    refine T_if1 (by decide) ?_
    refine T_rN ?_
    refine T_if1 (by decide +kernel) ?_
    refine T_up ?_
    refine T_if1 (by decide +kernel) ?_
    refine T_up0 ((z_up_j (by decide)).trans ((z_up_k (by decide)).trans ((z_up_k (by decide)).trans ((z_up_k (by decide)).trans (by decide +kernel))))) ?_
    refine T_rN ?_
    refine T_if1 (by decide +kernel) ?_
    refine T_let 0 ((z_up_j (by decide)).trans ((z_up_k (by decide)).trans ((z_up_k (by decide)).trans ((z_up_k (by decide)).trans (by decide +kernel))))) ?_
    refine T_if1 (by decide) ?_
    refine T_if1 (by decide +kernel) ?_
    refine T_let 312 (by decide +kernel) ?_
    refine T_if1 (by decide +kernel) ?_
    refine T_let 120 ((z_up_k (by decide)).trans ((z_up_k (by decide)).trans ((z_up_k (by decide)).trans ((z_up_k (by decide)).trans (by decide +kernel))))) ?_
    refine T_if1 (by decide +kernel) ?_
    refine T_let 312 (by decide +kernel) ?_
    refine T_if1 (by decide +kernel) ?_
    refine T_let 0 ((z_up_k (by decide)).trans ((z_up_k (by decide)).trans ((z_up_k (by decide)).trans ((z_up_k (by decide)).trans (by decide +kernel))))) ?_
    refine T_if1 (by decide +kernel) ?_
    refine T_bI ?_
    refine T_of (fX12_breaks.eq_1 ..) ?_
    refine T_if1 (by decide) ?_
    refine T_of (fX12_breaks_L15.eq_2 ..) ?_
    refine T_if1 (by decide +kernel) ?_
    refine T_let 0 ((z_up_j (by decide)).trans ((z_up_k (by decide)).trans ((z_up_k (by decide)).trans ((z_up_k (by decide)).trans (by decide +kernel))))) ?_
    refine T_if1 (by decide) ?_
    refine T_if1 (by decide +kernel) ?_
    refine T_let 3438 (by decide +kernel) ?_
    refine T_if1 (by decide +kernel) ?_
    refine T_let 0 ((z_up_j (by decide)).trans ((z_up_k (by decide)).trans ((z_up_k (by decide)).trans ((z_up_k (by decide)).trans (by decide +kernel))))) ?_
    refine T_if1 (by decide +kernel) ?_
    refine T_up0 ((z_up_k (by decide)).trans ((z_up_k (by decide)).trans ((z_up_k (by decide)).trans ((z_up_k (by decide)).trans (by decide +kernel))))) ?_
    refine T_rI ?_
    refine T_if1 (by decide +kernel) ?_
    refine T_up0 ((z_up_j (by decide)).trans ((z_up_k (by decide)).trans ((z_up_k (by decide)).trans ((z_up_k (by decide)).trans (by decide +kernel))))) ?_
    refine T_if1 (by decide +kernel) ?_
    refine T_up0 ((z_up_j (by decide)).trans ((z_up_k (by decide)).trans ((z_up_k (by decide)).trans ((z_up_k (by decide)).trans (by decide +kernel))))) ?_
    refine T_of (fX12_laysAll_L39.eq_2 ..) ?_
    refine T_if1 (by decide +kernel) ?_
    refine T_let 0 ((z_up_j (by decide)).trans ((z_up_k (by decide)).trans ((z_up_k (by decide)).trans ((z_up_k (by decide)).trans (by decide +kernel))))) ?_
    refine T_if1 (by decide) ?_
    refine T_if1 (by decide +kernel) ?_
    refine T_up ?_
    refine T_rN ?_
    refine T_if1 (by decide +kernel) ?_
    refine T_let 0 ((z_up_j (by decide)).trans ((z_up_j (by decide)).trans ((z_up_k (by decide)).trans ((z_up_k (by decide)).trans ((z_up_k (by decide)).trans (by decide +kernel)))))) ?_
    refine T_let (-1) (by decide +kernel) ?_
    refine T_bI ?_
    refine T_of (fX12_in.eq_1 ..) ?_
    refine T_if0 (by omega) ?_
    refine T_if1 (by omega) ?_
    refine T_of (fX12_in_J14.eq_1 ..) ?_
    refine T_of (fX12_in_J15.eq_1 ..) ?_
    refine T_if1 (by decide) ?_
    refine T_rI ?_
    refine T_if1 (by decide) ?_
    refine T_rI ?_
    refine T_if0 (by decide) ?_
    refine T_of (fX12_side_J19.eq_1 ..) ?_
    refine T_if1 (by decide +kernel) ?_
    refine T_bI ?_
    refine T_of (fX12_bad.eq_1 ..) ?_
    refine T_if0 (by decide) ?_
    refine T_if1 (by decide +kernel) ?_
    refine T_let 0 ((z_up_j (by decide)).trans ((z_up_j (by decide)).trans ((z_up_k (by decide)).trans ((z_up_k (by decide)).trans ((z_up_k (by decide)).trans (by decide +kernel)))))) ?_
    refine T_if0 (by decide) ?_
    refine T_if1 (by decide +kernel) ?_
    refine T_up ?_
    refine T_if1 (by decide +kernel) ?_
    refine T_let 310 (by decide +kernel) ?_
    refine T_if1 (by decide +kernel) ?_
    refine T_let 0 ((z_up_k (by decide)).trans ((z_up_k (by decide)).trans ((z_up_k (by decide)).trans ((z_up_k (by decide)).trans ((z_up_k (by decide)).trans ((z_up_k (by decide)).trans (by decide +kernel))))))) ?_
    refine T_let 1 (by decide +kernel) ?_
    refine T_if1 (by decide +kernel) ?_
    refine T_up ?_
    refine T_of (fX12_bad_J26.eq_1 ..) ?_
    refine T_if1 (by decide +kernel) ?_
    refine T_let 1 ((z_up_k (by decide)).trans z_up_s) ?_
    refine T_if0 (by decide) ?_
    refine T_of (fX12_bad_J38.eq_1 ..) ?_
    refine T_if1 (by decide) ?_
    refine T_rI ?_
    refine T_if1 (by decide) ?_
    refine T_of (fX12_side_J59.eq_1 ..) ?_
    refine T_rI ?_
    refine T_if1 (by decide +kernel) ?_
    refine T_bI ?_
    refine T_of (fX12_thrown.eq_1 ..) ?_
    refine T_if1 (by decide +kernel) ?_
    refine T_let 1 ((z_up_k (by decide)).trans z_up_s) ?_
    refine T_rI ?_
    refine T_if1 (by decide) ?_
    refine T_if1 (by decide) ?_
    refine T_of (fL_law_J1673.eq_1 ..) ?_
    refine T_of (fL_law_J2073.eq_1 ..) ?_
    refine T_let 6 (by decide +kernel) ?_
    exact hr _
theorem c_1676 {xs : Nat → Int32} {r : z_M → Int → z_O} {k : z_M → z_O} {P : z_V → z_M → Prop} {p1 p2 p3 p4 p5 : Int} (q1 : Int32.toInt (xs 1) = p1) (q2 : Int32.toInt (xs 2) = p2) (q3 : Int32.toInt (xs 3) = p3) (q4 : Int32.toInt (xs 4) = p4) (q5 : Int32.toInt (xs 5) = p5) (hr : ∀ s, z_T (r s 6) P) : z_T (fL_law_J1676 1000 6 xs z_s0 1 309 7658 0 r k) P := by
  refine T_of (fL_law_J1676.eq_1 ..) ?_
  refine T_let 1 (by decide +kernel) ?_
  refine T_if1 (by decide) ?_
  refine T_let p1 q1 ?_
  refine T_bI ?_
  refine T_of (fL_gutter.eq_1 ..) ?_
  refine T_if1 (by decide +kernel) ?_
  refine T_cI ?_
  refine T_of (fX11_gutter.eq_1 ..) ?_
  refine T_if1 (by decide +kernel) ?_
  refine T_bN ?_
  refine T_of e_refresh ?_
  refine T_rN ?_
  refine T_if1 (by decide +kernel) ?_
  refine T_let 240 (by decide +kernel) ?_
  refine T_if1 (by decide +kernel) ?_
  refine T_let 0 ((z_up_k (by decide)).trans ((z_up_k (by decide)).trans (by decide +kernel))) ?_
  refine T_if1 (by decide +kernel) ?_
  refine T_bN ?_
  refine T_of (fX11_needExisting.eq_1 ..) ?_
  refine T_ite (fun h1 => ?_) (fun h1 => ?_)
  · refine T_of (fX11_needExisting_J9.eq_1 ..) ?_
    refine T_if1 (by decide +kernel) ?_
    refine T_let 0 ((z_up_j (by decide)).trans ((z_up_j (by decide)).trans (by decide +kernel))) ?_
    refine T_let 1 (by decide +kernel) ?_
    refine T_if1 (by decide +kernel) ?_
    refine T_up ?_
    refine T_xN ?_
    refine T_x0I ?_
    refine T_rI ?_
    refine T_let 1 (by decide +kernel) ?_
    refine T_if1 (by decide) ?_
    refine T_let p1 q1 ?_
    refine T_if1 (by decide +kernel) ?_
    refine T_bI ?_
    refine T_of (fX12_gutter.eq_1 ..) ?_
    refine T_if1 (by decide +kernel) ?_
    refine T_up0 ((z_up_k (by decide)).trans ((z_up_k (by decide)).trans ((z_up_k (by decide)).trans (by decide +kernel)))) ?_
    refine T_if1 (by decide +kernel) ?_
    refine T_bI ?_
    refine T_of (fX12_isLine.eq_1 ..) ?_
    refine T_if1 (by decide +kernel) ?_
    refine T_bN ?_
    refine T_of (fX12_laysAll.eq_1 ..) ?_
    refine T_if1 (by decide +kernel) ?_
    refine T_bN ?_
    refine T_of (fX12_freshens.eq_1 ..) ?_
    refine T_if1 (by decide +kernel) ?_
    refine T_let 0 ((z_up_k (by decide)).trans ((z_up_k (by decide)).trans ((z_up_k (by decide)).trans (by decide +kernel)))) ?_
    refine T_if1 (by decide) ?_
    refine T_of (fX12_freshens_L10.eq_2 ..) ?_
    refine T_if1 (by decide +kernel) ?_
    refine T_let 0 ((z_up_k (by decide)).trans ((z_up_k (by decide)).trans ((z_up_k (by decide)).trans (by decide +kernel)))) ?_
    refine T_if1 (by decide) ?_
    refine T_if1 (by decide +kernel) ?_
    refine T_bN ?_
    refine T_of (fX12_laysPairs.eq_1 ..) ?_
    refine T_if1 (by decide +kernel) ?_
    refine T_up0 ((z_up_k (by decide)).trans ((z_up_k (by decide)).trans ((z_up_k (by decide)).trans (by decide +kernel)))) ?_
    refine T_if1 (by decide +kernel) ?_
    refine T_up0 ((z_up_k (by decide)).trans ((z_up_k (by decide)).trans ((z_up_k (by decide)).trans (by decide +kernel)))) ?_
    refine T_of (fX12_laysPairs_L14.eq_2 ..) ?_
    refine T_if1 (by decide +kernel) ?_
    refine T_let 0 ((z_up_k (by decide)).trans ((z_up_k (by decide)).trans ((z_up_k (by decide)).trans (by decide +kernel)))) ?_
    refine T_if1 (by decide) ?_
    refine T_rN ?_
    refine T_if1 (by decide +kernel) ?_
    refine T_up ?_
    refine T_if1 (by decide +kernel) ?_
    refine T_up0 ((z_up_j (by decide)).trans ((z_up_k (by decide)).trans ((z_up_k (by decide)).trans ((z_up_k (by decide)).trans (by decide +kernel))))) ?_
    refine T_rN ?_
    refine T_if1 (by decide +kernel) ?_
    refine T_let 0 ((z_up_j (by decide)).trans ((z_up_k (by decide)).trans ((z_up_k (by decide)).trans ((z_up_k (by decide)).trans (by decide +kernel))))) ?_
    refine T_if1 (by decide) ?_
    refine T_if1 (by decide +kernel) ?_
    refine T_let 312 (by decide +kernel) ?_
    refine T_if1 (by decide +kernel) ?_
    refine T_let 120 ((z_up_k (by decide)).trans ((z_up_k (by decide)).trans ((z_up_k (by decide)).trans ((z_up_k (by decide)).trans (by decide +kernel))))) ?_
    refine T_if1 (by decide +kernel) ?_
    refine T_let 312 (by decide +kernel) ?_
    refine T_if1 (by decide +kernel) ?_
    refine T_let 0 ((z_up_k (by decide)).trans ((z_up_k (by decide)).trans ((z_up_k (by decide)).trans ((z_up_k (by decide)).trans (by decide +kernel))))) ?_
    refine T_if1 (by decide +kernel) ?_
    refine T_bI ?_
    refine T_of (fX12_breaks.eq_1 ..) ?_
    refine T_if1 (by decide) ?_
    refine T_of (fX12_breaks_L15.eq_2 ..) ?_
    refine T_if1 (by decide +kernel) ?_
    refine T_let 0 ((z_up_j (by decide)).trans ((z_up_k (by decide)).trans ((z_up_k (by decide)).trans ((z_up_k (by decide)).trans (by decide +kernel))))) ?_
    refine T_if1 (by decide) ?_
    refine T_if1 (by decide +kernel) ?_
    refine T_let 3438 (by decide +kernel) ?_
    refine T_if1 (by decide +kernel) ?_
    refine T_let 0 ((z_up_j (by decide)).trans ((z_up_k (by decide)).trans ((z_up_k (by decide)).trans ((z_up_k (by decide)).trans (by decide +kernel))))) ?_
    refine T_if1 (by decide +kernel) ?_
    refine T_up0 ((z_up_k (by decide)).trans ((z_up_k (by decide)).trans ((z_up_k (by decide)).trans ((z_up_k (by decide)).trans (by decide +kernel))))) ?_
    refine T_rI ?_
    refine T_if1 (by decide +kernel) ?_
    refine T_up0 ((z_up_j (by decide)).trans ((z_up_k (by decide)).trans ((z_up_k (by decide)).trans ((z_up_k (by decide)).trans (by decide +kernel))))) ?_
    refine T_if1 (by decide +kernel) ?_
    refine T_up0 ((z_up_j (by decide)).trans ((z_up_k (by decide)).trans ((z_up_k (by decide)).trans ((z_up_k (by decide)).trans (by decide +kernel))))) ?_
    refine T_of (fX12_laysAll_L39.eq_2 ..) ?_
    refine T_if1 (by decide +kernel) ?_
    refine T_let 0 ((z_up_j (by decide)).trans ((z_up_k (by decide)).trans ((z_up_k (by decide)).trans ((z_up_k (by decide)).trans (by decide +kernel))))) ?_
    refine T_if1 (by decide) ?_
    refine T_if1 (by decide +kernel) ?_
    refine T_up ?_
    refine T_rN ?_
    refine T_if1 (by decide +kernel) ?_
    refine T_let 0 ((z_up_j (by decide)).trans ((z_up_j (by decide)).trans ((z_up_k (by decide)).trans ((z_up_k (by decide)).trans ((z_up_k (by decide)).trans (by decide +kernel)))))) ?_
    refine T_let (-1) (by decide +kernel) ?_
    refine T_bI ?_
    refine T_of (fX12_in.eq_1 ..) ?_
    refine T_if1 (by omega) ?_
    refine T_of (fX12_in_J14.eq_1 ..) ?_
    refine T_of (fX12_in_J15.eq_1 ..) ?_
    refine T_if1 (by decide) ?_
    refine T_rI ?_
    refine T_if1 (by decide) ?_
    refine T_rI ?_
    refine T_if0 (by decide) ?_
    refine T_of (fX12_gutter_J19.eq_1 ..) ?_
    refine T_if1 (by decide +kernel) ?_
    refine T_bI ?_
    refine T_of (fX12_bad.eq_1 ..) ?_
    refine T_if0 (by decide) ?_
    refine T_if1 (by decide +kernel) ?_
    refine T_let 0 ((z_up_j (by decide)).trans ((z_up_j (by decide)).trans ((z_up_k (by decide)).trans ((z_up_k (by decide)).trans ((z_up_k (by decide)).trans (by decide +kernel)))))) ?_
    refine T_if0 (by decide) ?_
    refine T_if1 (by decide +kernel) ?_
    refine T_up ?_
    refine T_if1 (by decide +kernel) ?_
    refine T_let 310 (by decide +kernel) ?_
    refine T_if1 (by decide +kernel) ?_
    refine T_let 0 ((z_up_k (by decide)).trans ((z_up_k (by decide)).trans ((z_up_k (by decide)).trans ((z_up_k (by decide)).trans ((z_up_k (by decide)).trans ((z_up_k (by decide)).trans (by decide +kernel))))))) ?_
    refine T_let 1 (by decide +kernel) ?_
    refine T_if1 (by decide +kernel) ?_
    refine T_up ?_
    refine T_of (fX12_bad_J26.eq_1 ..) ?_
    refine T_if1 (by decide +kernel) ?_
    refine T_let 1 ((z_up_k (by decide)).trans z_up_s) ?_
    refine T_if0 (by decide) ?_
    refine T_of (fX12_bad_J38.eq_1 ..) ?_
    refine T_if1 (by decide) ?_
    refine T_rI ?_
    refine T_if0 (by decide) ?_
    refine T_rI ?_
    refine T_if1 (by decide +kernel) ?_
    refine T_bI ?_
    refine T_of (fX12_thrown.eq_1 ..) ?_
    refine T_if1 (by decide +kernel) ?_
    refine T_let 1 ((z_up_k (by decide)).trans z_up_s) ?_
    refine T_rI ?_
    refine T_if1 (by decide) ?_
    refine T_if1 (by decide) ?_
    refine T_of (fL_law_J1729.eq_1 ..) ?_
    refine T_of (fL_law_J2073.eq_1 ..) ?_
    refine T_let 6 (by decide +kernel) ?_
    exact hr _
  · refine T_if0 (by omega) ?_
    refine T_of (fX11_needExisting_J9.eq_1 ..) ?_
    refine T_if1 (by decide +kernel) ?_
    refine T_let 0 ((z_up_j (by decide)).trans ((z_up_j (by decide)).trans (by decide +kernel))) ?_
    refine T_let 1 (by decide +kernel) ?_
    refine T_if1 (by decide +kernel) ?_
    refine T_up ?_
    refine T_xN ?_
    refine T_x0I ?_
    refine T_rI ?_
    refine T_let 1 (by decide +kernel) ?_
    refine T_if1 (by decide) ?_
    refine T_let p1 q1 ?_
    refine T_if1 (by decide +kernel) ?_
    refine T_bI ?_
    refine T_of (fX12_gutter.eq_1 ..) ?_
    refine T_if1 (by decide +kernel) ?_
    refine T_up0 ((z_up_k (by decide)).trans ((z_up_k (by decide)).trans ((z_up_k (by decide)).trans (by decide +kernel)))) ?_
    refine T_if1 (by decide +kernel) ?_
    refine T_bI ?_
    refine T_of (fX12_isLine.eq_1 ..) ?_
    refine T_if1 (by decide +kernel) ?_
    refine T_bN ?_
    refine T_of (fX12_laysAll.eq_1 ..) ?_
    refine T_if1 (by decide +kernel) ?_
    refine T_bN ?_
    refine T_of (fX12_freshens.eq_1 ..) ?_
    refine T_if1 (by decide +kernel) ?_
    refine T_let 0 ((z_up_k (by decide)).trans ((z_up_k (by decide)).trans ((z_up_k (by decide)).trans (by decide +kernel)))) ?_
    refine T_if1 (by decide) ?_
    refine T_of (fX12_freshens_L10.eq_2 ..) ?_
    refine T_if1 (by decide +kernel) ?_
    refine T_let 0 ((z_up_k (by decide)).trans ((z_up_k (by decide)).trans ((z_up_k (by decide)).trans (by decide +kernel)))) ?_
    refine T_if1 (by decide) ?_
    refine T_if1 (by decide +kernel) ?_
    refine T_bN ?_
    refine T_of (fX12_laysPairs.eq_1 ..) ?_
    refine T_if1 (by decide +kernel) ?_
    refine T_up0 ((z_up_k (by decide)).trans ((z_up_k (by decide)).trans ((z_up_k (by decide)).trans (by decide +kernel)))) ?_
    refine T_if1 (by decide +kernel) ?_
    refine T_up0 ((z_up_k (by decide)).trans ((z_up_k (by decide)).trans ((z_up_k (by decide)).trans (by decide +kernel)))) ?_
    refine T_of (fX12_laysPairs_L14.eq_2 ..) ?_
    refine T_if1 (by decide +kernel) ?_
    refine T_let 0 ((z_up_k (by decide)).trans ((z_up_k (by decide)).trans ((z_up_k (by decide)).trans (by decide +kernel)))) ?_
    refine T_if1 (by decide) ?_
    refine T_rN ?_
    refine T_if1 (by decide +kernel) ?_
    refine T_up ?_
    refine T_if1 (by decide +kernel) ?_
    refine T_up0 ((z_up_j (by decide)).trans ((z_up_k (by decide)).trans ((z_up_k (by decide)).trans ((z_up_k (by decide)).trans (by decide +kernel))))) ?_
    refine T_rN ?_
    refine T_if1 (by decide +kernel) ?_
    refine T_let 0 ((z_up_j (by decide)).trans ((z_up_k (by decide)).trans ((z_up_k (by decide)).trans ((z_up_k (by decide)).trans (by decide +kernel))))) ?_
    refine T_if1 (by decide) ?_
    refine T_if1 (by decide +kernel) ?_
    refine T_let 312 (by decide +kernel) ?_
    refine T_if1 (by decide +kernel) ?_
    refine T_let 120 ((z_up_k (by decide)).trans ((z_up_k (by decide)).trans ((z_up_k (by decide)).trans ((z_up_k (by decide)).trans (by decide +kernel))))) ?_
    refine T_if1 (by decide +kernel) ?_
    refine T_let 312 (by decide +kernel) ?_
    refine T_if1 (by decide +kernel) ?_
    refine T_let 0 ((z_up_k (by decide)).trans ((z_up_k (by decide)).trans ((z_up_k (by decide)).trans ((z_up_k (by decide)).trans (by decide +kernel))))) ?_
    refine T_if1 (by decide +kernel) ?_
    refine T_bI ?_
    refine T_of (fX12_breaks.eq_1 ..) ?_
    refine T_if1 (by decide) ?_
    refine T_of (fX12_breaks_L15.eq_2 ..) ?_
    refine T_if1 (by decide +kernel) ?_
    refine T_let 0 ((z_up_j (by decide)).trans ((z_up_k (by decide)).trans ((z_up_k (by decide)).trans ((z_up_k (by decide)).trans (by decide +kernel))))) ?_
    refine T_if1 (by decide) ?_
    refine T_if1 (by decide +kernel) ?_
    refine T_let 3438 (by decide +kernel) ?_
    refine T_if1 (by decide +kernel) ?_
    refine T_let 0 ((z_up_j (by decide)).trans ((z_up_k (by decide)).trans ((z_up_k (by decide)).trans ((z_up_k (by decide)).trans (by decide +kernel))))) ?_
    refine T_if1 (by decide +kernel) ?_
    refine T_up0 ((z_up_k (by decide)).trans ((z_up_k (by decide)).trans ((z_up_k (by decide)).trans ((z_up_k (by decide)).trans (by decide +kernel))))) ?_
    refine T_rI ?_
    refine T_if1 (by decide +kernel) ?_
    refine T_up0 ((z_up_j (by decide)).trans ((z_up_k (by decide)).trans ((z_up_k (by decide)).trans ((z_up_k (by decide)).trans (by decide +kernel))))) ?_
    refine T_if1 (by decide +kernel) ?_
    refine T_up0 ((z_up_j (by decide)).trans ((z_up_k (by decide)).trans ((z_up_k (by decide)).trans ((z_up_k (by decide)).trans (by decide +kernel))))) ?_
    refine T_of (fX12_laysAll_L39.eq_2 ..) ?_
    refine T_if1 (by decide +kernel) ?_
    refine T_let 0 ((z_up_j (by decide)).trans ((z_up_k (by decide)).trans ((z_up_k (by decide)).trans ((z_up_k (by decide)).trans (by decide +kernel))))) ?_
    refine T_if1 (by decide) ?_
    refine T_if1 (by decide +kernel) ?_
    refine T_up ?_
    refine T_rN ?_
    refine T_if1 (by decide +kernel) ?_
    refine T_let 0 ((z_up_j (by decide)).trans ((z_up_j (by decide)).trans ((z_up_k (by decide)).trans ((z_up_k (by decide)).trans ((z_up_k (by decide)).trans (by decide +kernel)))))) ?_
    refine T_let (-1) (by decide +kernel) ?_
    refine T_bI ?_
    refine T_of (fX12_in.eq_1 ..) ?_
    refine T_if0 (by omega) ?_
    refine T_if1 (by omega) ?_
    refine T_of (fX12_in_J14.eq_1 ..) ?_
    refine T_of (fX12_in_J15.eq_1 ..) ?_
    refine T_if1 (by decide) ?_
    refine T_rI ?_
    refine T_if1 (by decide) ?_
    refine T_rI ?_
    refine T_if0 (by decide) ?_
    refine T_of (fX12_gutter_J19.eq_1 ..) ?_
    refine T_if1 (by decide +kernel) ?_
    refine T_bI ?_
    refine T_of (fX12_bad.eq_1 ..) ?_
    refine T_if0 (by decide) ?_
    refine T_if1 (by decide +kernel) ?_
    refine T_let 0 ((z_up_j (by decide)).trans ((z_up_j (by decide)).trans ((z_up_k (by decide)).trans ((z_up_k (by decide)).trans ((z_up_k (by decide)).trans (by decide +kernel)))))) ?_
    refine T_if0 (by decide) ?_
    refine T_if1 (by decide +kernel) ?_
    refine T_up ?_
    refine T_if1 (by decide +kernel) ?_
    refine T_let 310 (by decide +kernel) ?_
    refine T_if1 (by decide +kernel) ?_
    refine T_let 0 ((z_up_k (by decide)).trans ((z_up_k (by decide)).trans ((z_up_k (by decide)).trans ((z_up_k (by decide)).trans ((z_up_k (by decide)).trans ((z_up_k (by decide)).trans (by decide +kernel))))))) ?_
    refine T_let 1 (by decide +kernel) ?_
    refine T_if1 (by decide +kernel) ?_
    refine T_up ?_
    refine T_of (fX12_bad_J26.eq_1 ..) ?_
    refine T_if1 (by decide +kernel) ?_
    refine T_let 1 ((z_up_k (by decide)).trans z_up_s) ?_
    refine T_if0 (by decide) ?_
    refine T_of (fX12_bad_J38.eq_1 ..) ?_
    refine T_if1 (by decide) ?_
    refine T_rI ?_
    refine T_if0 (by decide) ?_
    refine T_rI ?_
    refine T_if1 (by decide +kernel) ?_
    refine T_bI ?_
    refine T_of (fX12_thrown.eq_1 ..) ?_
    refine T_if1 (by decide +kernel) ?_
    refine T_let 1 ((z_up_k (by decide)).trans z_up_s) ?_
    refine T_rI ?_
    refine T_if1 (by decide) ?_
    refine T_if1 (by decide) ?_
    refine T_of (fL_law_J1729.eq_1 ..) ?_
    refine T_of (fL_law_J2073.eq_1 ..) ?_
    refine T_let 6 (by decide +kernel) ?_
    exact hr _
theorem c_1732 {xs : Nat → Int32} {r : z_M → Int → z_O} {k : z_M → z_O} {P : z_V → z_M → Prop} {p1 p2 p3 p4 p5 : Int} (q1 : Int32.toInt (xs 1) = p1) (q2 : Int32.toInt (xs 2) = p2) (q3 : Int32.toInt (xs 3) = p3) (q4 : Int32.toInt (xs 4) = p4) (q5 : Int32.toInt (xs 5) = p5) (hr : ∀ s, z_T (r s 6) P) : z_T (fL_law_J1732 1000 6 xs z_s0 1 309 7658 0 r k) P := by
  refine T_of (fL_law_J1732.eq_1 ..) ?_
  refine T_let 1 (by decide +kernel) ?_
  refine T_if1 (by decide) ?_
  refine T_let p1 q1 ?_
  refine T_bI ?_
  refine T_of (fL_clash.eq_1 ..) ?_
  refine T_if1 (by decide +kernel) ?_
  refine T_cI ?_
  refine T_of (fX11_clash.eq_1 ..) ?_
  refine T_if1 (by decide +kernel) ?_
  refine T_bN ?_
  refine T_of e_refresh ?_
  refine T_rN ?_
  refine T_if1 (by decide +kernel) ?_
  refine T_let 240 (by decide +kernel) ?_
  refine T_if1 (by decide +kernel) ?_
  refine T_let 0 ((z_up_k (by decide)).trans ((z_up_k (by decide)).trans (by decide +kernel))) ?_
  refine T_if1 (by decide +kernel) ?_
  refine T_bN ?_
  refine T_of (fX11_needExisting.eq_1 ..) ?_
  refine T_ite (fun h1 => ?_) (fun h1 => ?_)
  · refine T_of (fX11_needExisting_J9.eq_1 ..) ?_
    refine T_if1 (by decide +kernel) ?_
    refine T_let 0 ((z_up_j (by decide)).trans ((z_up_j (by decide)).trans (by decide +kernel))) ?_
    refine T_let 1 (by decide +kernel) ?_
    refine T_if1 (by decide +kernel) ?_
    refine T_up ?_
    refine T_xN ?_
    refine T_x0I ?_
    refine T_rI ?_
    refine T_let 1 (by decide +kernel) ?_
    refine T_if1 (by decide) ?_
    refine T_let p1 q1 ?_
    refine T_if1 (by decide +kernel) ?_
    refine T_bI ?_
    refine T_of (fX12_clash.eq_1 ..) ?_
    refine T_if1 (by decide +kernel) ?_
    refine T_up0 ((z_up_k (by decide)).trans ((z_up_k (by decide)).trans ((z_up_k (by decide)).trans (by decide +kernel)))) ?_
    refine T_if1 (by decide +kernel) ?_
    refine T_bI ?_
    refine T_of (fX12_isLine.eq_1 ..) ?_
    refine T_if1 (by decide +kernel) ?_
    refine T_bN ?_
    refine T_of (fX12_laysAll.eq_1 ..) ?_
    refine T_if1 (by decide +kernel) ?_
    refine T_bN ?_
    refine T_of (fX12_freshens.eq_1 ..) ?_
    refine T_if1 (by decide +kernel) ?_
    refine T_let 0 ((z_up_k (by decide)).trans ((z_up_k (by decide)).trans ((z_up_k (by decide)).trans (by decide +kernel)))) ?_
    refine T_if1 (by decide) ?_
    refine T_of (fX12_freshens_L10.eq_2 ..) ?_
    refine T_if1 (by decide +kernel) ?_
    refine T_let 0 ((z_up_k (by decide)).trans ((z_up_k (by decide)).trans ((z_up_k (by decide)).trans (by decide +kernel)))) ?_
    refine T_if1 (by decide) ?_
    refine T_if1 (by decide +kernel) ?_
    refine T_bN ?_
    refine T_of (fX12_laysPairs.eq_1 ..) ?_
    refine T_if1 (by decide +kernel) ?_
    refine T_up0 ((z_up_k (by decide)).trans ((z_up_k (by decide)).trans ((z_up_k (by decide)).trans (by decide +kernel)))) ?_
    refine T_if1 (by decide +kernel) ?_
    refine T_up0 ((z_up_k (by decide)).trans ((z_up_k (by decide)).trans ((z_up_k (by decide)).trans (by decide +kernel)))) ?_
    refine T_of (fX12_laysPairs_L14.eq_2 ..) ?_
    refine T_if1 (by decide +kernel) ?_
    refine T_let 0 ((z_up_k (by decide)).trans ((z_up_k (by decide)).trans ((z_up_k (by decide)).trans (by decide +kernel)))) ?_
    refine T_if1 (by decide) ?_
    refine T_rN ?_
    refine T_if1 (by decide +kernel) ?_
    refine T_up ?_
    refine T_if1 (by decide +kernel) ?_
    refine T_up0 ((z_up_j (by decide)).trans ((z_up_k (by decide)).trans ((z_up_k (by decide)).trans ((z_up_k (by decide)).trans (by decide +kernel))))) ?_
    refine T_rN ?_
    refine T_if1 (by decide +kernel) ?_
    refine T_let 0 ((z_up_j (by decide)).trans ((z_up_k (by decide)).trans ((z_up_k (by decide)).trans ((z_up_k (by decide)).trans (by decide +kernel))))) ?_
    refine T_if1 (by decide) ?_
    refine T_if1 (by decide +kernel) ?_
    refine T_let 312 (by decide +kernel) ?_
    refine T_if1 (by decide +kernel) ?_
    refine T_let 120 ((z_up_k (by decide)).trans ((z_up_k (by decide)).trans ((z_up_k (by decide)).trans ((z_up_k (by decide)).trans (by decide +kernel))))) ?_
    refine T_if1 (by decide +kernel) ?_
    refine T_let 312 (by decide +kernel) ?_
    refine T_if1 (by decide +kernel) ?_
    refine T_let 0 ((z_up_k (by decide)).trans ((z_up_k (by decide)).trans ((z_up_k (by decide)).trans ((z_up_k (by decide)).trans (by decide +kernel))))) ?_
    refine T_if1 (by decide +kernel) ?_
    refine T_bI ?_
    refine T_of (fX12_breaks.eq_1 ..) ?_
    refine T_if1 (by decide) ?_
    refine T_of (fX12_breaks_L15.eq_2 ..) ?_
    refine T_if1 (by decide +kernel) ?_
    refine T_let 0 ((z_up_j (by decide)).trans ((z_up_k (by decide)).trans ((z_up_k (by decide)).trans ((z_up_k (by decide)).trans (by decide +kernel))))) ?_
    refine T_if1 (by decide) ?_
    refine T_if1 (by decide +kernel) ?_
    refine T_let 3438 (by decide +kernel) ?_
    refine T_if1 (by decide +kernel) ?_
    refine T_let 0 ((z_up_j (by decide)).trans ((z_up_k (by decide)).trans ((z_up_k (by decide)).trans ((z_up_k (by decide)).trans (by decide +kernel))))) ?_
    refine T_if1 (by decide +kernel) ?_
    refine T_up0 ((z_up_k (by decide)).trans ((z_up_k (by decide)).trans ((z_up_k (by decide)).trans ((z_up_k (by decide)).trans (by decide +kernel))))) ?_
    refine T_rI ?_
    refine T_if1 (by decide +kernel) ?_
    refine T_up0 ((z_up_j (by decide)).trans ((z_up_k (by decide)).trans ((z_up_k (by decide)).trans ((z_up_k (by decide)).trans (by decide +kernel))))) ?_
    refine T_if1 (by decide +kernel) ?_
    refine T_up0 ((z_up_j (by decide)).trans ((z_up_k (by decide)).trans ((z_up_k (by decide)).trans ((z_up_k (by decide)).trans (by decide +kernel))))) ?_
    refine T_of (fX12_laysAll_L39.eq_2 ..) ?_
    refine T_if1 (by decide +kernel) ?_
    refine T_let 0 ((z_up_j (by decide)).trans ((z_up_k (by decide)).trans ((z_up_k (by decide)).trans ((z_up_k (by decide)).trans (by decide +kernel))))) ?_
    refine T_if1 (by decide) ?_
    refine T_if1 (by decide +kernel) ?_
    refine T_up ?_
    refine T_rN ?_
    refine T_if1 (by decide +kernel) ?_
    refine T_let 0 ((z_up_j (by decide)).trans ((z_up_j (by decide)).trans ((z_up_k (by decide)).trans ((z_up_k (by decide)).trans ((z_up_k (by decide)).trans (by decide +kernel)))))) ?_
    refine T_let (-1) (by decide +kernel) ?_
    refine T_bI ?_
    refine T_of (fX12_in.eq_1 ..) ?_
    refine T_if1 (by omega) ?_
    refine T_of (fX12_in_J14.eq_1 ..) ?_
    refine T_of (fX12_in_J15.eq_1 ..) ?_
    refine T_if1 (by decide) ?_
    refine T_rI ?_
    refine T_if1 (by decide) ?_
    refine T_rI ?_
    refine T_if0 (by decide) ?_
    refine T_of (fX12_clash_J19.eq_1 ..) ?_
    refine T_if1 (by decide +kernel) ?_
    refine T_bI ?_
    refine T_of (fX12_bad.eq_1 ..) ?_
    refine T_if0 (by decide) ?_
    refine T_if1 (by decide +kernel) ?_
    refine T_let 0 ((z_up_j (by decide)).trans ((z_up_j (by decide)).trans ((z_up_k (by decide)).trans ((z_up_k (by decide)).trans ((z_up_k (by decide)).trans (by decide +kernel)))))) ?_
    refine T_if0 (by decide) ?_
    refine T_if1 (by decide +kernel) ?_
    refine T_up ?_
    refine T_if1 (by decide +kernel) ?_
    refine T_let 310 (by decide +kernel) ?_
    refine T_if1 (by decide +kernel) ?_
    refine T_let 0 ((z_up_k (by decide)).trans ((z_up_k (by decide)).trans ((z_up_k (by decide)).trans ((z_up_k (by decide)).trans ((z_up_k (by decide)).trans ((z_up_k (by decide)).trans (by decide +kernel))))))) ?_
    refine T_let 1 (by decide +kernel) ?_
    refine T_if1 (by decide +kernel) ?_
    refine T_up ?_
    refine T_of (fX12_bad_J26.eq_1 ..) ?_
    refine T_if1 (by decide +kernel) ?_
    refine T_let 1 ((z_up_k (by decide)).trans z_up_s) ?_
    refine T_if0 (by decide) ?_
    refine T_of (fX12_bad_J38.eq_1 ..) ?_
    refine T_if1 (by decide) ?_
    refine T_rI ?_
    refine T_if0 (by decide) ?_
    refine T_rI ?_
    refine T_if1 (by decide +kernel) ?_
    refine T_bI ?_
    refine T_of (fX12_thrown.eq_1 ..) ?_
    refine T_if1 (by decide +kernel) ?_
    refine T_let 1 ((z_up_k (by decide)).trans z_up_s) ?_
    refine T_rI ?_
    refine T_if1 (by decide) ?_
    refine T_if1 (by decide) ?_
    refine T_of (fL_law_J1785.eq_1 ..) ?_
    refine T_of (fL_law_J2073.eq_1 ..) ?_
    refine T_let 6 (by decide +kernel) ?_
    exact hr _
  · refine T_if0 (by omega) ?_
    refine T_of (fX11_needExisting_J9.eq_1 ..) ?_
    refine T_if1 (by decide +kernel) ?_
    refine T_let 0 ((z_up_j (by decide)).trans ((z_up_j (by decide)).trans (by decide +kernel))) ?_
    refine T_let 1 (by decide +kernel) ?_
    refine T_if1 (by decide +kernel) ?_
    refine T_up ?_
    refine T_xN ?_
    refine T_x0I ?_
    refine T_rI ?_
    refine T_let 1 (by decide +kernel) ?_
    refine T_if1 (by decide) ?_
    refine T_let p1 q1 ?_
    refine T_if1 (by decide +kernel) ?_
    refine T_bI ?_
    refine T_of (fX12_clash.eq_1 ..) ?_
    refine T_if1 (by decide +kernel) ?_
    refine T_up0 ((z_up_k (by decide)).trans ((z_up_k (by decide)).trans ((z_up_k (by decide)).trans (by decide +kernel)))) ?_
    refine T_if1 (by decide +kernel) ?_
    refine T_bI ?_
    refine T_of (fX12_isLine.eq_1 ..) ?_
    refine T_if1 (by decide +kernel) ?_
    refine T_bN ?_
    refine T_of (fX12_laysAll.eq_1 ..) ?_
    refine T_if1 (by decide +kernel) ?_
    refine T_bN ?_
    refine T_of (fX12_freshens.eq_1 ..) ?_
    refine T_if1 (by decide +kernel) ?_
    refine T_let 0 ((z_up_k (by decide)).trans ((z_up_k (by decide)).trans ((z_up_k (by decide)).trans (by decide +kernel)))) ?_
    refine T_if1 (by decide) ?_
    refine T_of (fX12_freshens_L10.eq_2 ..) ?_
    refine T_if1 (by decide +kernel) ?_
    refine T_let 0 ((z_up_k (by decide)).trans ((z_up_k (by decide)).trans ((z_up_k (by decide)).trans (by decide +kernel)))) ?_
    refine T_if1 (by decide) ?_
    refine T_if1 (by decide +kernel) ?_
    refine T_bN ?_
    refine T_of (fX12_laysPairs.eq_1 ..) ?_
    refine T_if1 (by decide +kernel) ?_
    refine T_up0 ((z_up_k (by decide)).trans ((z_up_k (by decide)).trans ((z_up_k (by decide)).trans (by decide +kernel)))) ?_
    refine T_if1 (by decide +kernel) ?_
    refine T_up0 ((z_up_k (by decide)).trans ((z_up_k (by decide)).trans ((z_up_k (by decide)).trans (by decide +kernel)))) ?_
    refine T_of (fX12_laysPairs_L14.eq_2 ..) ?_
    refine T_if1 (by decide +kernel) ?_
    refine T_let 0 ((z_up_k (by decide)).trans ((z_up_k (by decide)).trans ((z_up_k (by decide)).trans (by decide +kernel)))) ?_
    refine T_if1 (by decide) ?_
    refine T_rN ?_
    refine T_if1 (by decide +kernel) ?_
    refine T_up ?_
    refine T_if1 (by decide +kernel) ?_
    refine T_up0 ((z_up_j (by decide)).trans ((z_up_k (by decide)).trans ((z_up_k (by decide)).trans ((z_up_k (by decide)).trans (by decide +kernel))))) ?_
    refine T_rN ?_
    refine T_if1 (by decide +kernel) ?_
    refine T_let 0 ((z_up_j (by decide)).trans ((z_up_k (by decide)).trans ((z_up_k (by decide)).trans ((z_up_k (by decide)).trans (by decide +kernel))))) ?_
    refine T_if1 (by decide) ?_
    refine T_if1 (by decide +kernel) ?_
    refine T_let 312 (by decide +kernel) ?_
    refine T_if1 (by decide +kernel) ?_
    refine T_let 120 ((z_up_k (by decide)).trans ((z_up_k (by decide)).trans ((z_up_k (by decide)).trans ((z_up_k (by decide)).trans (by decide +kernel))))) ?_
    refine T_if1 (by decide +kernel) ?_
    refine T_let 312 (by decide +kernel) ?_
    refine T_if1 (by decide +kernel) ?_
    refine T_let 0 ((z_up_k (by decide)).trans ((z_up_k (by decide)).trans ((z_up_k (by decide)).trans ((z_up_k (by decide)).trans (by decide +kernel))))) ?_
    refine T_if1 (by decide +kernel) ?_
    refine T_bI ?_
    refine T_of (fX12_breaks.eq_1 ..) ?_
    refine T_if1 (by decide) ?_
    refine T_of (fX12_breaks_L15.eq_2 ..) ?_
    refine T_if1 (by decide +kernel) ?_
    refine T_let 0 ((z_up_j (by decide)).trans ((z_up_k (by decide)).trans ((z_up_k (by decide)).trans ((z_up_k (by decide)).trans (by decide +kernel))))) ?_
    refine T_if1 (by decide) ?_
    refine T_if1 (by decide +kernel) ?_
    refine T_let 3438 (by decide +kernel) ?_
    refine T_if1 (by decide +kernel) ?_
    refine T_let 0 ((z_up_j (by decide)).trans ((z_up_k (by decide)).trans ((z_up_k (by decide)).trans ((z_up_k (by decide)).trans (by decide +kernel))))) ?_
    refine T_if1 (by decide +kernel) ?_
    refine T_up0 ((z_up_k (by decide)).trans ((z_up_k (by decide)).trans ((z_up_k (by decide)).trans ((z_up_k (by decide)).trans (by decide +kernel))))) ?_
    refine T_rI ?_
    refine T_if1 (by decide +kernel) ?_
    refine T_up0 ((z_up_j (by decide)).trans ((z_up_k (by decide)).trans ((z_up_k (by decide)).trans ((z_up_k (by decide)).trans (by decide +kernel))))) ?_
    refine T_if1 (by decide +kernel) ?_
    refine T_up0 ((z_up_j (by decide)).trans ((z_up_k (by decide)).trans ((z_up_k (by decide)).trans ((z_up_k (by decide)).trans (by decide +kernel))))) ?_
    refine T_of (fX12_laysAll_L39.eq_2 ..) ?_
    refine T_if1 (by decide +kernel) ?_
    refine T_let 0 ((z_up_j (by decide)).trans ((z_up_k (by decide)).trans ((z_up_k (by decide)).trans ((z_up_k (by decide)).trans (by decide +kernel))))) ?_
    refine T_if1 (by decide) ?_
    refine T_if1 (by decide +kernel) ?_
    refine T_up ?_
    refine T_rN ?_
    refine T_if1 (by decide +kernel) ?_
    refine T_let 0 ((z_up_j (by decide)).trans ((z_up_j (by decide)).trans ((z_up_k (by decide)).trans ((z_up_k (by decide)).trans ((z_up_k (by decide)).trans (by decide +kernel)))))) ?_
    refine T_let (-1) (by decide +kernel) ?_
    refine T_bI ?_
    refine T_of (fX12_in.eq_1 ..) ?_
    refine T_if0 (by omega) ?_
    refine T_if1 (by omega) ?_
    refine T_of (fX12_in_J14.eq_1 ..) ?_
    refine T_of (fX12_in_J15.eq_1 ..) ?_
    refine T_if1 (by decide) ?_
    refine T_rI ?_
    refine T_if1 (by decide) ?_
    refine T_rI ?_
    refine T_if0 (by decide) ?_
    refine T_of (fX12_clash_J19.eq_1 ..) ?_
    refine T_if1 (by decide +kernel) ?_
    refine T_bI ?_
    refine T_of (fX12_bad.eq_1 ..) ?_
    refine T_if0 (by decide) ?_
    refine T_if1 (by decide +kernel) ?_
    refine T_let 0 ((z_up_j (by decide)).trans ((z_up_j (by decide)).trans ((z_up_k (by decide)).trans ((z_up_k (by decide)).trans ((z_up_k (by decide)).trans (by decide +kernel)))))) ?_
    refine T_if0 (by decide) ?_
    refine T_if1 (by decide +kernel) ?_
    refine T_up ?_
    refine T_if1 (by decide +kernel) ?_
    refine T_let 310 (by decide +kernel) ?_
    refine T_if1 (by decide +kernel) ?_
    refine T_let 0 ((z_up_k (by decide)).trans ((z_up_k (by decide)).trans ((z_up_k (by decide)).trans ((z_up_k (by decide)).trans ((z_up_k (by decide)).trans ((z_up_k (by decide)).trans (by decide +kernel))))))) ?_
    refine T_let 1 (by decide +kernel) ?_
    refine T_if1 (by decide +kernel) ?_
    refine T_up ?_
    refine T_of (fX12_bad_J26.eq_1 ..) ?_
    refine T_if1 (by decide +kernel) ?_
    refine T_let 1 ((z_up_k (by decide)).trans z_up_s) ?_
    refine T_if0 (by decide) ?_
    refine T_of (fX12_bad_J38.eq_1 ..) ?_
    refine T_if1 (by decide) ?_
    refine T_rI ?_
    refine T_if0 (by decide) ?_
    refine T_rI ?_
    refine T_if1 (by decide +kernel) ?_
    refine T_bI ?_
    refine T_of (fX12_thrown.eq_1 ..) ?_
    refine T_if1 (by decide +kernel) ?_
    refine T_let 1 ((z_up_k (by decide)).trans z_up_s) ?_
    refine T_rI ?_
    refine T_if1 (by decide) ?_
    refine T_if1 (by decide) ?_
    refine T_of (fL_law_J1785.eq_1 ..) ?_
    refine T_of (fL_law_J2073.eq_1 ..) ?_
    refine T_let 6 (by decide +kernel) ?_
    exact hr _
theorem c_1788 {xs : Nat → Int32} {r : z_M → Int → z_O} {k : z_M → z_O} {P : z_V → z_M → Prop} {p1 p2 p3 p4 p5 : Int} (q1 : Int32.toInt (xs 1) = p1) (q2 : Int32.toInt (xs 2) = p2) (q3 : Int32.toInt (xs 3) = p3) (q4 : Int32.toInt (xs 4) = p4) (q5 : Int32.toInt (xs 5) = p5) (hr : ∀ s, z_T (r s 6) P) : z_T (fL_law_J1788 1000 6 xs z_s0 1 309 7658 0 r k) P := by
  refine T_of (fL_law_J1788.eq_1 ..) ?_
  refine T_let 1 (by decide +kernel) ?_
  refine T_if1 (by decide) ?_
  refine T_let p1 q1 ?_
  refine T_let 2 (by decide +kernel) ?_
  refine T_if1 (by decide) ?_
  refine T_let p2 q2 ?_
  refine T_bI ?_
  refine T_of (fL_thick.eq_1 ..) ?_
  refine T_if1 (by decide +kernel) ?_
  refine T_cI ?_
  refine T_of (fX11_thick.eq_1 ..) ?_
  refine T_if1 (by decide +kernel) ?_
  refine T_bN ?_
  refine T_of e_refresh ?_
  refine T_rN ?_
  refine T_if1 (by decide +kernel) ?_
  refine T_let 240 (by decide +kernel) ?_
  refine T_if1 (by decide +kernel) ?_
  refine T_let 0 ((z_up_k (by decide)).trans ((z_up_k (by decide)).trans (by decide +kernel))) ?_
  refine T_if1 (by decide +kernel) ?_
  refine T_bN ?_
  refine T_of (fX11_needExisting.eq_1 ..) ?_
  refine T_ite (fun h1 => ?_) (fun h1 => ?_)
  · refine T_of (fX11_needExisting_J9.eq_1 ..) ?_
    refine T_if1 (by decide +kernel) ?_
    refine T_let 0 ((z_up_j (by decide)).trans ((z_up_j (by decide)).trans (by decide +kernel))) ?_
    refine T_let 1 (by decide +kernel) ?_
    refine T_if1 (by decide +kernel) ?_
    refine T_up ?_
    refine T_xN ?_
    refine T_x0I ?_
    refine T_rI ?_
    refine T_let 1 (by decide +kernel) ?_
    refine T_if1 (by decide) ?_
    refine T_let p1 q1 ?_
    refine T_let 2 (by decide +kernel) ?_
    refine T_if1 (by decide) ?_
    refine T_let p2 q2 ?_
    refine T_if1 (by decide +kernel) ?_
    refine T_bI ?_
    refine T_of (fX12_thick.eq_1 ..) ?_
    refine T_if1 (by decide +kernel) ?_
    refine T_up0 ((z_up_k (by decide)).trans ((z_up_k (by decide)).trans ((z_up_k (by decide)).trans (by decide +kernel)))) ?_
    refine T_if1 (by decide +kernel) ?_
    refine T_bI ?_
    refine T_of (fX12_isLine.eq_1 ..) ?_
    refine T_if1 (by decide +kernel) ?_
    refine T_bN ?_
    refine T_of (fX12_laysAll.eq_1 ..) ?_
    refine T_if1 (by decide +kernel) ?_
    refine T_bN ?_
    refine T_of (fX12_freshens.eq_1 ..) ?_
    refine T_if1 (by decide +kernel) ?_
    refine T_let 0 ((z_up_k (by decide)).trans ((z_up_k (by decide)).trans ((z_up_k (by decide)).trans (by decide +kernel)))) ?_
    refine T_if1 (by decide) ?_
    refine T_of (fX12_freshens_L10.eq_2 ..) ?_
    refine T_if1 (by decide +kernel) ?_
    refine T_let 0 ((z_up_k (by decide)).trans ((z_up_k (by decide)).trans ((z_up_k (by decide)).trans (by decide +kernel)))) ?_
    refine T_if1 (by decide) ?_
    refine T_if1 (by decide +kernel) ?_
    refine T_bN ?_
    refine T_of (fX12_laysPairs.eq_1 ..) ?_
    refine T_if1 (by decide +kernel) ?_
    refine T_up0 ((z_up_k (by decide)).trans ((z_up_k (by decide)).trans ((z_up_k (by decide)).trans (by decide +kernel)))) ?_
    refine T_if1 (by decide +kernel) ?_
    refine T_up0 ((z_up_k (by decide)).trans ((z_up_k (by decide)).trans ((z_up_k (by decide)).trans (by decide +kernel)))) ?_
    refine T_of (fX12_laysPairs_L14.eq_2 ..) ?_
    refine T_if1 (by decide +kernel) ?_
    refine T_let 0 ((z_up_k (by decide)).trans ((z_up_k (by decide)).trans ((z_up_k (by decide)).trans (by decide +kernel)))) ?_
    refine T_if1 (by decide) ?_
    refine T_rN ?_
    refine T_if1 (by decide +kernel) ?_
    refine T_up ?_
    refine T_if1 (by decide +kernel) ?_
    refine T_up0 ((z_up_j (by decide)).trans ((z_up_k (by decide)).trans ((z_up_k (by decide)).trans ((z_up_k (by decide)).trans (by decide +kernel))))) ?_
    refine T_rN ?_
    refine T_if1 (by decide +kernel) ?_
    refine T_let 0 ((z_up_j (by decide)).trans ((z_up_k (by decide)).trans ((z_up_k (by decide)).trans ((z_up_k (by decide)).trans (by decide +kernel))))) ?_
    refine T_if1 (by decide) ?_
    refine T_if1 (by decide +kernel) ?_
    refine T_let 312 (by decide +kernel) ?_
    refine T_if1 (by decide +kernel) ?_
    refine T_let 120 ((z_up_k (by decide)).trans ((z_up_k (by decide)).trans ((z_up_k (by decide)).trans ((z_up_k (by decide)).trans (by decide +kernel))))) ?_
    refine T_if1 (by decide +kernel) ?_
    refine T_let 312 (by decide +kernel) ?_
    refine T_if1 (by decide +kernel) ?_
    refine T_let 0 ((z_up_k (by decide)).trans ((z_up_k (by decide)).trans ((z_up_k (by decide)).trans ((z_up_k (by decide)).trans (by decide +kernel))))) ?_
    refine T_if1 (by decide +kernel) ?_
    refine T_bI ?_
    refine T_of (fX12_breaks.eq_1 ..) ?_
    refine T_if1 (by decide) ?_
    refine T_of (fX12_breaks_L15.eq_2 ..) ?_
    refine T_if1 (by decide +kernel) ?_
    refine T_let 0 ((z_up_j (by decide)).trans ((z_up_k (by decide)).trans ((z_up_k (by decide)).trans ((z_up_k (by decide)).trans (by decide +kernel))))) ?_
    refine T_if1 (by decide) ?_
    refine T_if1 (by decide +kernel) ?_
    refine T_let 3438 (by decide +kernel) ?_
    refine T_if1 (by decide +kernel) ?_
    refine T_let 0 ((z_up_j (by decide)).trans ((z_up_k (by decide)).trans ((z_up_k (by decide)).trans ((z_up_k (by decide)).trans (by decide +kernel))))) ?_
    refine T_if1 (by decide +kernel) ?_
    refine T_up0 ((z_up_k (by decide)).trans ((z_up_k (by decide)).trans ((z_up_k (by decide)).trans ((z_up_k (by decide)).trans (by decide +kernel))))) ?_
    refine T_rI ?_
    refine T_if1 (by decide +kernel) ?_
    refine T_up0 ((z_up_j (by decide)).trans ((z_up_k (by decide)).trans ((z_up_k (by decide)).trans ((z_up_k (by decide)).trans (by decide +kernel))))) ?_
    refine T_if1 (by decide +kernel) ?_
    refine T_up0 ((z_up_j (by decide)).trans ((z_up_k (by decide)).trans ((z_up_k (by decide)).trans ((z_up_k (by decide)).trans (by decide +kernel))))) ?_
    refine T_of (fX12_laysAll_L39.eq_2 ..) ?_
    refine T_if1 (by decide +kernel) ?_
    refine T_let 0 ((z_up_j (by decide)).trans ((z_up_k (by decide)).trans ((z_up_k (by decide)).trans ((z_up_k (by decide)).trans (by decide +kernel))))) ?_
    refine T_if1 (by decide) ?_
    refine T_if1 (by decide +kernel) ?_
    refine T_up ?_
    refine T_rN ?_
    refine T_if1 (by decide +kernel) ?_
    refine T_let 0 ((z_up_j (by decide)).trans ((z_up_j (by decide)).trans ((z_up_k (by decide)).trans ((z_up_k (by decide)).trans ((z_up_k (by decide)).trans (by decide +kernel)))))) ?_
    refine T_let (-1) (by decide +kernel) ?_
    refine T_bI ?_
    refine T_of (fX12_in.eq_1 ..) ?_
    refine T_if1 (by omega) ?_
    refine T_of (fX12_in_J14.eq_1 ..) ?_
    refine T_of (fX12_in_J15.eq_1 ..) ?_
    refine T_if1 (by decide) ?_
    refine T_rI ?_
    refine T_if1 (by decide) ?_
    refine T_rI ?_
    refine T_if1 (by decide) ?_
    refine T_of (fX12_thick_J22.eq_1 ..) ?_
    refine T_of (fX12_thick_J27.eq_1 ..) ?_
    refine T_if1 (by decide +kernel) ?_
    refine T_bI ?_
    refine T_of (fX12_bad.eq_1 ..) ?_
    refine T_if0 (by decide) ?_
    refine T_if1 (by decide +kernel) ?_
    refine T_let 0 ((z_up_j (by decide)).trans ((z_up_j (by decide)).trans ((z_up_k (by decide)).trans ((z_up_k (by decide)).trans ((z_up_k (by decide)).trans (by decide +kernel)))))) ?_
    refine T_if0 (by decide) ?_
    refine T_if1 (by decide +kernel) ?_
    refine T_up ?_
    refine T_if1 (by decide +kernel) ?_
    refine T_let 310 (by decide +kernel) ?_
    refine T_if1 (by decide +kernel) ?_
    refine T_let 0 ((z_up_k (by decide)).trans ((z_up_k (by decide)).trans ((z_up_k (by decide)).trans ((z_up_k (by decide)).trans ((z_up_k (by decide)).trans ((z_up_k (by decide)).trans (by decide +kernel))))))) ?_
    refine T_let 1 (by decide +kernel) ?_
    refine T_if1 (by decide +kernel) ?_
    refine T_up ?_
    refine T_of (fX12_bad_J26.eq_1 ..) ?_
    refine T_if1 (by decide +kernel) ?_
    refine T_let 1 ((z_up_k (by decide)).trans z_up_s) ?_
    refine T_if0 (by decide) ?_
    refine T_of (fX12_bad_J38.eq_1 ..) ?_
    refine T_if1 (by decide) ?_
    refine T_rI ?_
    refine T_if1 (by decide) ?_
    refine T_of (fX12_thick_J54.eq_1 ..) ?_
    refine T_rI ?_
    refine T_if1 (by decide +kernel) ?_
    refine T_bI ?_
    refine T_of (fX12_thrown.eq_1 ..) ?_
    refine T_if1 (by decide +kernel) ?_
    refine T_let 1 ((z_up_k (by decide)).trans z_up_s) ?_
    refine T_rI ?_
    refine T_if1 (by decide) ?_
    refine T_if1 (by decide) ?_
    refine T_of (fL_law_J1853.eq_1 ..) ?_
    refine T_of (fL_law_J2073.eq_1 ..) ?_
    refine T_let 6 (by decide +kernel) ?_
    exact hr _
  · refine T_if0 (by omega) ?_
    refine T_of (fX11_needExisting_J9.eq_1 ..) ?_
    refine T_if1 (by decide +kernel) ?_
    refine T_let 0 ((z_up_j (by decide)).trans ((z_up_j (by decide)).trans (by decide +kernel))) ?_
    refine T_let 1 (by decide +kernel) ?_
    refine T_if1 (by decide +kernel) ?_
    refine T_up ?_
    refine T_xN ?_
    refine T_x0I ?_
    refine T_rI ?_
    refine T_let 1 (by decide +kernel) ?_
    refine T_if1 (by decide) ?_
    refine T_let p1 q1 ?_
    refine T_let 2 (by decide +kernel) ?_
    refine T_if1 (by decide) ?_
    refine T_let p2 q2 ?_
    refine T_if1 (by decide +kernel) ?_
    refine T_bI ?_
    refine T_of (fX12_thick.eq_1 ..) ?_
    refine T_if1 (by decide +kernel) ?_
    refine T_up0 ((z_up_k (by decide)).trans ((z_up_k (by decide)).trans ((z_up_k (by decide)).trans (by decide +kernel)))) ?_
    refine T_if1 (by decide +kernel) ?_
    refine T_bI ?_
    refine T_of (fX12_isLine.eq_1 ..) ?_
    refine T_if1 (by decide +kernel) ?_
    refine T_bN ?_
    refine T_of (fX12_laysAll.eq_1 ..) ?_
    refine T_if1 (by decide +kernel) ?_
    refine T_bN ?_
    refine T_of (fX12_freshens.eq_1 ..) ?_
    refine T_if1 (by decide +kernel) ?_
    refine T_let 0 ((z_up_k (by decide)).trans ((z_up_k (by decide)).trans ((z_up_k (by decide)).trans (by decide +kernel)))) ?_
    refine T_if1 (by decide) ?_
    refine T_of (fX12_freshens_L10.eq_2 ..) ?_
    refine T_if1 (by decide +kernel) ?_
    refine T_let 0 ((z_up_k (by decide)).trans ((z_up_k (by decide)).trans ((z_up_k (by decide)).trans (by decide +kernel)))) ?_
    refine T_if1 (by decide) ?_
    refine T_if1 (by decide +kernel) ?_
    refine T_bN ?_
    refine T_of (fX12_laysPairs.eq_1 ..) ?_
    refine T_if1 (by decide +kernel) ?_
    refine T_up0 ((z_up_k (by decide)).trans ((z_up_k (by decide)).trans ((z_up_k (by decide)).trans (by decide +kernel)))) ?_
    refine T_if1 (by decide +kernel) ?_
    refine T_up0 ((z_up_k (by decide)).trans ((z_up_k (by decide)).trans ((z_up_k (by decide)).trans (by decide +kernel)))) ?_
    refine T_of (fX12_laysPairs_L14.eq_2 ..) ?_
    refine T_if1 (by decide +kernel) ?_
    refine T_let 0 ((z_up_k (by decide)).trans ((z_up_k (by decide)).trans ((z_up_k (by decide)).trans (by decide +kernel)))) ?_
    refine T_if1 (by decide) ?_
    refine T_rN ?_
    refine T_if1 (by decide +kernel) ?_
    refine T_up ?_
    refine T_if1 (by decide +kernel) ?_
    refine T_up0 ((z_up_j (by decide)).trans ((z_up_k (by decide)).trans ((z_up_k (by decide)).trans ((z_up_k (by decide)).trans (by decide +kernel))))) ?_
    refine T_rN ?_
    refine T_if1 (by decide +kernel) ?_
    refine T_let 0 ((z_up_j (by decide)).trans ((z_up_k (by decide)).trans ((z_up_k (by decide)).trans ((z_up_k (by decide)).trans (by decide +kernel))))) ?_
    refine T_if1 (by decide) ?_
    refine T_if1 (by decide +kernel) ?_
    refine T_let 312 (by decide +kernel) ?_
    refine T_if1 (by decide +kernel) ?_
    refine T_let 120 ((z_up_k (by decide)).trans ((z_up_k (by decide)).trans ((z_up_k (by decide)).trans ((z_up_k (by decide)).trans (by decide +kernel))))) ?_
    refine T_if1 (by decide +kernel) ?_
    refine T_let 312 (by decide +kernel) ?_
    refine T_if1 (by decide +kernel) ?_
    refine T_let 0 ((z_up_k (by decide)).trans ((z_up_k (by decide)).trans ((z_up_k (by decide)).trans ((z_up_k (by decide)).trans (by decide +kernel))))) ?_
    refine T_if1 (by decide +kernel) ?_
    refine T_bI ?_
    refine T_of (fX12_breaks.eq_1 ..) ?_
    refine T_if1 (by decide) ?_
    refine T_of (fX12_breaks_L15.eq_2 ..) ?_
    refine T_if1 (by decide +kernel) ?_
    refine T_let 0 ((z_up_j (by decide)).trans ((z_up_k (by decide)).trans ((z_up_k (by decide)).trans ((z_up_k (by decide)).trans (by decide +kernel))))) ?_
    refine T_if1 (by decide) ?_
    refine T_if1 (by decide +kernel) ?_
    refine T_let 3438 (by decide +kernel) ?_
    refine T_if1 (by decide +kernel) ?_
    refine T_let 0 ((z_up_j (by decide)).trans ((z_up_k (by decide)).trans ((z_up_k (by decide)).trans ((z_up_k (by decide)).trans (by decide +kernel))))) ?_
    refine T_if1 (by decide +kernel) ?_
    refine T_up0 ((z_up_k (by decide)).trans ((z_up_k (by decide)).trans ((z_up_k (by decide)).trans ((z_up_k (by decide)).trans (by decide +kernel))))) ?_
    refine T_rI ?_
    refine T_if1 (by decide +kernel) ?_
    refine T_up0 ((z_up_j (by decide)).trans ((z_up_k (by decide)).trans ((z_up_k (by decide)).trans ((z_up_k (by decide)).trans (by decide +kernel))))) ?_
    refine T_if1 (by decide +kernel) ?_
    refine T_up0 ((z_up_j (by decide)).trans ((z_up_k (by decide)).trans ((z_up_k (by decide)).trans ((z_up_k (by decide)).trans (by decide +kernel))))) ?_
    refine T_of (fX12_laysAll_L39.eq_2 ..) ?_
    refine T_if1 (by decide +kernel) ?_
    refine T_let 0 ((z_up_j (by decide)).trans ((z_up_k (by decide)).trans ((z_up_k (by decide)).trans ((z_up_k (by decide)).trans (by decide +kernel))))) ?_
    refine T_if1 (by decide) ?_
    refine T_if1 (by decide +kernel) ?_
    refine T_up ?_
    refine T_rN ?_
    refine T_if1 (by decide +kernel) ?_
    refine T_let 0 ((z_up_j (by decide)).trans ((z_up_j (by decide)).trans ((z_up_k (by decide)).trans ((z_up_k (by decide)).trans ((z_up_k (by decide)).trans (by decide +kernel)))))) ?_
    refine T_let (-1) (by decide +kernel) ?_
    refine T_bI ?_
    refine T_of (fX12_in.eq_1 ..) ?_
    refine T_if0 (by omega) ?_
    refine T_if1 (by omega) ?_
    refine T_of (fX12_in_J14.eq_1 ..) ?_
    refine T_of (fX12_in_J15.eq_1 ..) ?_
    refine T_if1 (by decide) ?_
    refine T_rI ?_
    refine T_if1 (by decide) ?_
    refine T_rI ?_
    refine T_if1 (by decide) ?_
    refine T_of (fX12_thick_J22.eq_1 ..) ?_
    refine T_of (fX12_thick_J27.eq_1 ..) ?_
    refine T_if1 (by decide +kernel) ?_
    refine T_bI ?_
    refine T_of (fX12_bad.eq_1 ..) ?_
    refine T_if0 (by decide) ?_
    refine T_if1 (by decide +kernel) ?_
    refine T_let 0 ((z_up_j (by decide)).trans ((z_up_j (by decide)).trans ((z_up_k (by decide)).trans ((z_up_k (by decide)).trans ((z_up_k (by decide)).trans (by decide +kernel)))))) ?_
    refine T_if0 (by decide) ?_
    refine T_if1 (by decide +kernel) ?_
    refine T_up ?_
    refine T_if1 (by decide +kernel) ?_
    refine T_let 310 (by decide +kernel) ?_
    refine T_if1 (by decide +kernel) ?_
    refine T_let 0 ((z_up_k (by decide)).trans ((z_up_k (by decide)).trans ((z_up_k (by decide)).trans ((z_up_k (by decide)).trans ((z_up_k (by decide)).trans ((z_up_k (by decide)).trans (by decide +kernel))))))) ?_
    refine T_let 1 (by decide +kernel) ?_
    refine T_if1 (by decide +kernel) ?_
    refine T_up ?_
    refine T_of (fX12_bad_J26.eq_1 ..) ?_
    refine T_if1 (by decide +kernel) ?_
    refine T_let 1 ((z_up_k (by decide)).trans z_up_s) ?_
    refine T_if0 (by decide) ?_
    refine T_of (fX12_bad_J38.eq_1 ..) ?_
    refine T_if1 (by decide) ?_
    refine T_rI ?_
    refine T_if1 (by decide) ?_
    refine T_of (fX12_thick_J54.eq_1 ..) ?_
    refine T_rI ?_
    refine T_if1 (by decide +kernel) ?_
    refine T_bI ?_
    refine T_of (fX12_thrown.eq_1 ..) ?_
    refine T_if1 (by decide +kernel) ?_
    refine T_let 1 ((z_up_k (by decide)).trans z_up_s) ?_
    refine T_rI ?_
    refine T_if1 (by decide) ?_
    refine T_if1 (by decide) ?_
    refine T_of (fL_law_J1853.eq_1 ..) ?_
    refine T_of (fL_law_J2073.eq_1 ..) ?_
    refine T_let 6 (by decide +kernel) ?_
    exact hr _
theorem c_1856 {xs : Nat → Int32} {r : z_M → Int → z_O} {k : z_M → z_O} {P : z_V → z_M → Prop} {p1 p2 p3 p4 p5 : Int} (q1 : Int32.toInt (xs 1) = p1) (q2 : Int32.toInt (xs 2) = p2) (q3 : Int32.toInt (xs 3) = p3) (q4 : Int32.toInt (xs 4) = p4) (q5 : Int32.toInt (xs 5) = p5) (hr : ∀ s, z_T (r s 6) P) : z_T (fL_law_J1856 1000 6 xs z_s0 1 309 7658 0 r k) P := by
  refine T_of (fL_law_J1856.eq_1 ..) ?_
  refine T_let 1 (by decide +kernel) ?_
  refine T_if1 (by decide) ?_
  refine T_let p1 q1 ?_
  refine T_bI ?_
  refine T_of (fL_pages.eq_1 ..) ?_
  refine T_if1 (by decide +kernel) ?_
  refine T_cI ?_
  refine T_of (fX11_pages.eq_1 ..) ?_
  refine T_if1 (by decide +kernel) ?_
  refine T_bN ?_
  refine T_of (fX11_needWithin.eq_1 ..) ?_
  refine T_ite (fun h1 => ?_) (fun h1 => ?_)
  · refine T_of (fX11_needWithin_J10.eq_1 ..) ?_
    refine T_if1 (by decide +kernel) ?_
    refine T_let 0 (by decide +kernel) ?_
    refine T_let 1 (by decide +kernel) ?_
    refine T_if1 (by decide +kernel) ?_
    refine T_up ?_
    refine T_xN ?_
    refine T_x1I ?_
    refine T_rI ?_
    refine T_let 1 (by decide +kernel) ?_
    refine T_if1 (by decide) ?_
    refine T_let p1 q1 ?_
    refine T_if1 (by decide +kernel) ?_
    refine T_bI ?_
    refine T_of (fX12_pages.eq_1 ..) ?_
    refine T_if1 (by decide +kernel) ?_
    refine T_up0 ((z_up_k (by decide)).trans (by decide +kernel)) ?_
    refine T_bI ?_
    refine T_of (fX12_in.eq_1 ..) ?_
    refine T_if1 (by omega) ?_
    refine T_of (fX12_in_J14.eq_1 ..) ?_
    refine T_of (fX12_in_J15.eq_1 ..) ?_
    refine T_if1 (by decide) ?_
    refine T_rI ?_
    refine T_if0 (by decide) ?_
    refine T_of (fX12_pages_J23.eq_1 ..) ?_
    refine T_if1 (by decide +kernel) ?_
    refine T_bI ?_
    refine T_of (fX12_bad.eq_1 ..) ?_
    refine T_if0 (by decide) ?_
    refine T_if1 (by decide +kernel) ?_
    refine T_let 0 ((z_up_k (by decide)).trans (by decide +kernel)) ?_
    refine T_if0 (by decide) ?_
    refine T_if1 (by decide +kernel) ?_
    refine T_up ?_
    refine T_if1 (by decide +kernel) ?_
    refine T_let 310 (by decide +kernel) ?_
    refine T_if1 (by decide +kernel) ?_
    refine T_let 0 ((z_up_k (by decide)).trans ((z_up_k (by decide)).trans (by decide +kernel))) ?_
    refine T_let 1 (by decide +kernel) ?_
    refine T_if1 (by decide +kernel) ?_
    refine T_up ?_
    refine T_of (fX12_bad_J26.eq_1 ..) ?_
    refine T_if1 (by decide +kernel) ?_
    refine T_let 1 ((z_up_k (by decide)).trans z_up_s) ?_
    refine T_if0 (by decide) ?_
    refine T_of (fX12_bad_J38.eq_1 ..) ?_
    refine T_if1 (by decide) ?_
    refine T_rI ?_
    refine T_if0 (by decide) ?_
    refine T_rI ?_
    refine T_if1 (by decide +kernel) ?_
    refine T_bI ?_
    refine T_of (fX12_thrown.eq_1 ..) ?_
    refine T_if1 (by decide +kernel) ?_
    refine T_let 1 ((z_up_k (by decide)).trans z_up_s) ?_
    refine T_rI ?_
    refine T_if1 (by decide) ?_
    refine T_if1 (by decide) ?_
    refine T_of (fL_law_J1909.eq_1 ..) ?_
    refine T_of (fL_law_J2073.eq_1 ..) ?_
    refine T_let 6 (by decide +kernel) ?_
    exact hr _
  · refine T_ite (fun h2 => ?_) (fun h2 => ?_)
    · refine T_rN ?_
      refine T_if1 (by decide +kernel) ?_
      refine T_bN ?_
      refine T_of e_refresh ?_
      refine T_rN ?_
      refine T_if1 (by decide +kernel) ?_
      refine T_bN ?_
      refine T_of (fX11_refreshSides.eq_1 ..) ?_
      refine T_if1 (by decide +kernel) ?_
      refine T_let 0 ((z_up_j (by decide)).trans ((z_up_j (by decide)).trans (by decide +kernel))) ?_
      refine T_if0 (by decide) ?_
      refine T_if1 (by decide +kernel) ?_
      refine T_let 296 (by decide +kernel) ?_
      refine T_if1 (by decide +kernel) ?_
      refine T_bN ?_
      refine T_of (fX8_build.eq_1 ..) ?_
      refine T_if1 (by decide +kernel) ?_
      refine T_let 258 (by decide +kernel) ?_
      refine T_if1 (by decide +kernel) ?_
      refine T_bI ?_
      refine T_of (fX3_lineCount.eq_1 ..) ?_
      refine T_if1 (by decide +kernel) ?_
      refine T_let 240 (by decide +kernel) ?_
      refine T_if1 (by decide +kernel) ?_
      refine T_let 0 ((z_up_k (by decide)).trans ((z_up_k (by decide)).trans (by decide +kernel))) ?_
      refine T_rI ?_
      refine T_of (fX8_build_L10.eq_2 ..) ?_
      refine T_if1 (by decide) ?_
      refine T_of (fX8_build_L51.eq_2 ..) ?_
      refine T_if1 (by decide) ?_
      refine T_rN ?_
      refine T_if1 (by decide +kernel) ?_
      refine T_up ?_
      refine T_of (fX11_refreshSides_J19.eq_1 ..) ?_
      refine T_rN ?_
      refine T_if1 (by decide +kernel) ?_
      refine T_let 296 (by decide +kernel) ?_
      refine T_if1 (by decide +kernel) ?_
      refine T_bI ?_
      refine T_of (fX8_pageCount.eq_1 ..) ?_
      refine T_of (fX8_pageCount_L4.eq_2 ..) ?_
      refine T_if1 (by decide +kernel) ?_
      refine T_let 258 (by decide +kernel) ?_
      refine T_if1 (by decide +kernel) ?_
      refine T_bI ?_
      refine T_of (fX3_lineCount.eq_1 ..) ?_
      refine T_if1 (by decide +kernel) ?_
      refine T_let 240 (by decide +kernel) ?_
      refine T_if1 (by decide +kernel) ?_
      refine T_let 0 ((z_up_k (by decide)).trans ((z_up_k (by decide)).trans ((z_up_k (by decide)).trans (by decide +kernel)))) ?_
      refine T_rI ?_
      refine T_if1 (by decide) ?_
      refine T_rI ?_
      refine T_rcI ?_
      refine T_if1 (by decide +kernel) ?_
      refine T_up0 ((z_up_k (by decide)).trans ((z_up_k (by decide)).trans ((z_up_k (by decide)).trans (by decide +kernel)))) ?_
      refine T_rI ?_
      refine T_let 1 (by decide +kernel) ?_
      refine T_if1 (by decide) ?_
      refine T_let p1 q1 ?_
      refine T_if1 (by decide +kernel) ?_
      refine T_bI ?_
      refine T_of (fX12_pages.eq_1 ..) ?_
      refine T_if1 (by decide +kernel) ?_
      refine T_up0 ((z_up_k (by decide)).trans ((z_up_k (by decide)).trans ((z_up_k (by decide)).trans (by decide +kernel)))) ?_
      refine T_bI ?_
      refine T_of (fX12_in.eq_1 ..) ?_
      refine T_if0 (by omega) ?_
      refine T_if0 (by omega) ?_
      refine T_of (fX12_in_J15.eq_1 ..) ?_
      refine T_if1 (by decide) ?_
      refine T_rI ?_
      refine T_if1 (by decide) ?_
      refine T_of (fX12_pages_J23.eq_1 ..) ?_
      refine T_if1 (by decide +kernel) ?_
      refine T_bI ?_
      refine T_of (fX12_bad.eq_1 ..) ?_
      refine T_if1 (by decide) ?_
      refine T_of (fX12_bad_J26.eq_1 ..) ?_
      refine T_if1 (by decide +kernel) ?_
      refine T_let 0 ((z_up_k (by decide)).trans ((z_up_k (by decide)).trans ((z_up_k (by decide)).trans (by decide +kernel)))) ?_
      refine T_if1 (by decide) ?_
      refine T_of (fX12_bad_J38.eq_1 ..) ?_
      refine T_if1 (by decide) ?_
      refine T_rI ?_
      refine T_if1 (by decide) ?_
      refine T_if1 (by decide +kernel) ?_
      refine T_bN ?_
      refine T_of (fX12_laysGutters.eq_1 ..) ?_
      refine T_if1 (by decide +kernel) ?_
      refine T_bN ?_
      refine T_of (fX12_laysAll.eq_1 ..) ?_
      refine T_if1 (by decide +kernel) ?_
      refine T_bN ?_
      refine T_of (fX12_freshens.eq_1 ..) ?_
      refine T_if1 (by decide +kernel) ?_
      refine T_let 0 ((z_up_k (by decide)).trans ((z_up_k (by decide)).trans ((z_up_k (by decide)).trans (by decide +kernel)))) ?_
      refine T_if1 (by decide) ?_
      refine T_of (fX12_freshens_L10.eq_2 ..) ?_
      refine T_if1 (by decide +kernel) ?_
      refine T_let 0 ((z_up_k (by decide)).trans ((z_up_k (by decide)).trans ((z_up_k (by decide)).trans (by decide +kernel)))) ?_
      refine T_if1 (by decide) ?_
      refine T_if1 (by decide +kernel) ?_
      refine T_bN ?_
      refine T_of (fX12_laysPairs.eq_1 ..) ?_
      refine T_if1 (by decide +kernel) ?_
      refine T_up0 ((z_up_k (by decide)).trans ((z_up_k (by decide)).trans ((z_up_k (by decide)).trans (by decide +kernel)))) ?_
      refine T_if1 (by decide +kernel) ?_
      refine T_up0 ((z_up_k (by decide)).trans ((z_up_k (by decide)).trans ((z_up_k (by decide)).trans (by decide +kernel)))) ?_
      refine T_of (fX12_laysPairs_L14.eq_2 ..) ?_
      refine T_if1 (by decide +kernel) ?_
      refine T_let 0 ((z_up_k (by decide)).trans ((z_up_k (by decide)).trans ((z_up_k (by decide)).trans (by decide +kernel)))) ?_
      refine T_if1 (by decide) ?_
      refine T_rN ?_
      refine T_if1 (by decide +kernel) ?_
      refine T_up ?_
      refine T_if1 (by decide +kernel) ?_
      refine T_up0 ((z_up_j (by decide)).trans ((z_up_k (by decide)).trans ((z_up_k (by decide)).trans ((z_up_k (by decide)).trans (by decide +kernel))))) ?_
      refine T_rN ?_
      refine T_if1 (by decide +kernel) ?_
      refine T_let 0 ((z_up_j (by decide)).trans ((z_up_k (by decide)).trans ((z_up_k (by decide)).trans ((z_up_k (by decide)).trans (by decide +kernel))))) ?_
      refine T_if1 (by decide) ?_
      refine T_if1 (by decide +kernel) ?_
      refine T_let 312 (by decide +kernel) ?_
      refine T_if1 (by decide +kernel) ?_
      refine T_let 120 ((z_up_k (by decide)).trans ((z_up_k (by decide)).trans ((z_up_k (by decide)).trans ((z_up_k (by decide)).trans (by decide +kernel))))) ?_
      refine T_if1 (by decide +kernel) ?_
      refine T_let 312 (by decide +kernel) ?_
      refine T_if1 (by decide +kernel) ?_
      refine T_let 0 ((z_up_k (by decide)).trans ((z_up_k (by decide)).trans ((z_up_k (by decide)).trans ((z_up_k (by decide)).trans (by decide +kernel))))) ?_
      refine T_if1 (by decide +kernel) ?_
      refine T_bI ?_
      refine T_of (fX12_breaks.eq_1 ..) ?_
      refine T_if1 (by decide) ?_
      refine T_of (fX12_breaks_L15.eq_2 ..) ?_
      refine T_if1 (by decide +kernel) ?_
      refine T_let 0 ((z_up_j (by decide)).trans ((z_up_k (by decide)).trans ((z_up_k (by decide)).trans ((z_up_k (by decide)).trans (by decide +kernel))))) ?_
      refine T_if1 (by decide) ?_
      refine T_if1 (by decide +kernel) ?_
      refine T_let 3438 (by decide +kernel) ?_
      refine T_if1 (by decide +kernel) ?_
      refine T_let 0 ((z_up_j (by decide)).trans ((z_up_k (by decide)).trans ((z_up_k (by decide)).trans ((z_up_k (by decide)).trans (by decide +kernel))))) ?_
      refine T_if1 (by decide +kernel) ?_
      refine T_up0 ((z_up_k (by decide)).trans ((z_up_k (by decide)).trans ((z_up_k (by decide)).trans ((z_up_k (by decide)).trans (by decide +kernel))))) ?_
      refine T_rI ?_
      refine T_if1 (by decide +kernel) ?_
      refine T_up0 ((z_up_j (by decide)).trans ((z_up_k (by decide)).trans ((z_up_k (by decide)).trans ((z_up_k (by decide)).trans (by decide +kernel))))) ?_
      refine T_if1 (by decide +kernel) ?_
      refine T_up0 ((z_up_j (by decide)).trans ((z_up_k (by decide)).trans ((z_up_k (by decide)).trans ((z_up_k (by decide)).trans (by decide +kernel))))) ?_
      refine T_of (fX12_laysAll_L39.eq_2 ..) ?_
      refine T_if1 (by decide +kernel) ?_
      refine T_let 0 ((z_up_j (by decide)).trans ((z_up_k (by decide)).trans ((z_up_k (by decide)).trans ((z_up_k (by decide)).trans (by decide +kernel))))) ?_
      refine T_if1 (by decide) ?_
      refine T_if1 (by decide +kernel) ?_
      refine T_up ?_
      refine T_rN ?_
      refine T_of (fX12_laysGutters_L6.eq_2 ..) ?_
      refine T_if1 (by decide +kernel) ?_
      refine T_let 0 ((z_up_j (by decide)).trans ((z_up_j (by decide)).trans ((z_up_k (by decide)).trans ((z_up_k (by decide)).trans ((z_up_k (by decide)).trans (by decide +kernel)))))) ?_
      refine T_if1 (by decide) ?_
      refine T_rN ?_
      refine T_if1 (by decide +kernel) ?_
      refine T_bI ?_
      refine T_of (fX12_pagesBy.eq_1 ..) ?_
      refine T_of (fX12_pagesBy_L4.eq_2 ..) ?_
      refine T_if1 (by decide +kernel) ?_
      refine T_let 0 ((z_up_j (by decide)).trans ((z_up_j (by decide)).trans ((z_up_k (by decide)).trans ((z_up_k (by decide)).trans ((z_up_k (by decide)).trans (by decide +kernel)))))) ?_
      refine T_if1 (by decide) ?_
      refine T_if1 (by decide +kernel) ?_
      refine T_let 7653 (by decide +kernel) ?_
      refine T_if1 (by decide +kernel) ?_
      refine T_let 0 ((z_up_j (by decide)).trans ((z_up_j (by decide)).trans ((z_up_k (by decide)).trans ((z_up_k (by decide)).trans ((z_up_k (by decide)).trans (by decide +kernel)))))) ?_
      refine T_if1 (by decide +kernel) ?_
      refine T_up0 ((z_up_k (by decide)).trans ((z_up_k (by decide)).trans ((z_up_k (by decide)).trans ((z_up_k (by decide)).trans ((z_up_k (by decide)).trans (by decide +kernel)))))) ?_
      refine T_rI ?_
      refine T_rI ?_
      refine T_if1 (by decide +kernel) ?_
      refine T_bI ?_
      refine T_of (fX12_thrown.eq_1 ..) ?_
      refine T_if1 (by decide +kernel) ?_
      refine T_let 0 ((z_up_j (by decide)).trans ((z_up_j (by decide)).trans ((z_up_k (by decide)).trans ((z_up_k (by decide)).trans ((z_up_k (by decide)).trans (by decide +kernel)))))) ?_
      refine T_rI ?_
      refine T_if1 (by decide) ?_
      refine T_if0 (by decide) ?_
      refine T_if1 (by decide +kernel) ?_
      refine T_let 0 ((z_up_k (by decide)).trans ((z_up_k (by decide)).trans ((z_up_k (by decide)).trans ((z_up_k (by decide)).trans ((z_up_k (by decide)).trans (by decide +kernel)))))) ?_
      refine T_let 0 (by decide +kernel) ?_
      refine T_if1 (by decide) ?_
      refine T_of (fL_law_J1909.eq_1 ..) ?_
      refine T_of (fL_law_J2073.eq_1 ..) ?_
      refine T_let 6 (by decide +kernel) ?_
      exact hr _
    · refine T_of (fX11_needWithin_J10.eq_1 ..) ?_
      refine T_if1 (by decide +kernel) ?_
      refine T_let 0 (by decide +kernel) ?_
      refine T_let 1 (by decide +kernel) ?_
      refine T_if1 (by decide +kernel) ?_
      refine T_up ?_
      refine T_xN ?_
      refine T_x1I ?_
      refine T_rI ?_
      refine T_let 1 (by decide +kernel) ?_
      refine T_if1 (by decide) ?_
      refine T_let p1 q1 ?_
      refine T_if1 (by decide +kernel) ?_
      refine T_bI ?_
      refine T_of (fX12_pages.eq_1 ..) ?_
      refine T_if1 (by decide +kernel) ?_
      refine T_up0 ((z_up_k (by decide)).trans (by decide +kernel)) ?_
      refine T_bI ?_
      refine T_of (fX12_in.eq_1 ..) ?_
      refine T_if0 (by omega) ?_
      refine T_if1 (by omega) ?_
      refine T_of (fX12_in_J14.eq_1 ..) ?_
      refine T_of (fX12_in_J15.eq_1 ..) ?_
      refine T_if1 (by decide) ?_
      refine T_rI ?_
      refine T_if0 (by decide) ?_
      refine T_of (fX12_pages_J23.eq_1 ..) ?_
      refine T_if1 (by decide +kernel) ?_
      refine T_bI ?_
      refine T_of (fX12_bad.eq_1 ..) ?_
      refine T_if0 (by decide) ?_
      refine T_if1 (by decide +kernel) ?_
      refine T_let 0 ((z_up_k (by decide)).trans (by decide +kernel)) ?_
      refine T_if0 (by decide) ?_
      refine T_if1 (by decide +kernel) ?_
      refine T_up ?_
      refine T_if1 (by decide +kernel) ?_
      refine T_let 310 (by decide +kernel) ?_
      refine T_if1 (by decide +kernel) ?_
      refine T_let 0 ((z_up_k (by decide)).trans ((z_up_k (by decide)).trans (by decide +kernel))) ?_
      refine T_let 1 (by decide +kernel) ?_
      refine T_if1 (by decide +kernel) ?_
      refine T_up ?_
      refine T_of (fX12_bad_J26.eq_1 ..) ?_
      refine T_if1 (by decide +kernel) ?_
      refine T_let 1 ((z_up_k (by decide)).trans z_up_s) ?_
      refine T_if0 (by decide) ?_
      refine T_of (fX12_bad_J38.eq_1 ..) ?_
      refine T_if1 (by decide) ?_
      refine T_rI ?_
      refine T_if0 (by decide) ?_
      refine T_rI ?_
      refine T_if1 (by decide +kernel) ?_
      refine T_bI ?_
      refine T_of (fX12_thrown.eq_1 ..) ?_
      refine T_if1 (by decide +kernel) ?_
      refine T_let 1 ((z_up_k (by decide)).trans z_up_s) ?_
      refine T_rI ?_
      refine T_if1 (by decide) ?_
      refine T_if1 (by decide) ?_
      refine T_of (fL_law_J1909.eq_1 ..) ?_
      refine T_of (fL_law_J2073.eq_1 ..) ?_
      refine T_let 6 (by decide +kernel) ?_
      exact hr _
