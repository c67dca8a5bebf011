/-! THE RUNS of one call on a fresh object (by program, wip/tool/mkrun.py) -/
theorem c_386 {xs : Nat → Int32} {r : z_M → Int → z_O} {k : z_M → z_O} {P : z_V → z_M → Prop} {p1 p2 p3 p4 p5 : Int} (q1 : Int32.toInt (xs 1) = p1) (q2 : Int32.toInt (xs 2) = p2) (q3 : Int32.toInt (xs 3) = p3) (q4 : Int32.toInt (xs 4) = p4) (q5 : Int32.toInt (xs 5) = p5) (hr : ∀ s, z_T (r s 6) P) : z_T (fL_law_J386 1000 6 xs z_s0 1 309 7658 0 r k) P := by
  refine T_of (fL_law_J386.eq_1 ..) ?_
  refine T_let 1 (by decide +kernel) ?_
  refine T_if1 (by decide) ?_
  refine T_let p1 q1 ?_
  refine T_let 2 (by decide +kernel) ?_
  refine T_if1 (by decide) ?_
  refine T_let p2 q2 ?_
  refine T_bI ?_
  refine T_of (fL_set.eq_1 ..) ?_
  refine T_if1 (by decide +kernel) ?_
  refine T_cI ?_
  refine T_of (fX11_set.eq_1 ..) ?_
  refine T_if1 (by decide +kernel) ?_
  refine T_let 8 (by decide +kernel) ?_
  refine T_if1 (by decide +kernel) ?_
  refine T_bN ?_
  refine T_of (fX11_needWithin.eq_1 ..) ?_
  refine T_ite (fun h1 => ?_) (fun h1 => ?_)
  · refine T_of (fX11_needWithin_J10.eq_1 ..) ?_
    refine T_if1 (by decide +kernel) ?_
    refine T_let 0 (by decide +kernel) ?_
    refine T_let 1 (by decide +kernel) ?_
    refine T_if1 (by decide +kernel) ?_
    refine T_up ?_
    refine T_xN ?_
    refine T_x1I ?_
    refine T_rI ?_
    refine T_let 1 (by decide +kernel) ?_
    refine T_if1 (by decide) ?_
    refine T_let p1 q1 ?_
    refine T_let 2 (by decide +kernel) ?_
    refine T_if1 (by decide) ?_
    refine T_let p2 q2 ?_
    refine T_if1 (by decide +kernel) ?_
    refine T_bI ?_
    refine T_of (fX12_set.eq_1 ..) ?_
    refine T_if1 (by decide +kernel) ?_
    refine T_up0 ((z_up_k (by decide)).trans (by decide +kernel)) ?_
    refine T_bI ?_
    refine T_of (fX12_more.eq_1 ..) ?_
    refine T_if1 (by omega) ?_
    refine T_of (fX12_more_J10.eq_1 ..) ?_
    refine T_rI ?_
    refine T_bI ?_
    refine T_of (fX12_less.eq_1 ..) ?_
    refine T_if0 (by decide) ?_
    refine T_of (fX12_less_J10.eq_1 ..) ?_
    refine T_rI ?_
    refine T_if1 (by omega) ?_
    refine T_of (fX12_set_J41.eq_1 ..) ?_
    refine T_of (fX12_set_J46.eq_1 ..) ?_
    refine T_if1 (by decide +kernel) ?_
    refine T_bI ?_
    refine T_of (fX12_bad.eq_1 ..) ?_
    refine T_if0 (by decide) ?_
    refine T_if1 (by decide +kernel) ?_
    refine T_let 0 ((z_up_k (by decide)).trans (by decide +kernel)) ?_
    refine T_if0 (by decide) ?_
    refine T_if1 (by decide +kernel) ?_
    refine T_up ?_
    refine T_if1 (by decide +kernel) ?_
    refine T_let 310 (by decide +kernel) ?_
    refine T_if1 (by decide +kernel) ?_
    refine T_let 0 ((z_up_k (by decide)).trans ((z_up_k (by decide)).trans (by decide +kernel))) ?_
    refine T_let 1 (by decide +kernel) ?_
    refine T_if1 (by decide +kernel) ?_
    refine T_up ?_
    refine T_of (fX12_bad_J26.eq_1 ..) ?_
    refine T_if1 (by decide +kernel) ?_
    refine T_let 1 ((z_up_k (by decide)).trans z_up_s) ?_
    refine T_if0 (by decide) ?_
    refine T_of (fX12_bad_J38.eq_1 ..) ?_
    refine T_if1 (by decide) ?_
    refine T_rI ?_
    refine T_if0 (by decide) ?_
    refine T_rI ?_
    refine T_if1 (by decide +kernel) ?_
    refine T_bI ?_
    refine T_of (fX12_thrown.eq_1 ..) ?_
    refine T_if1 (by decide +kernel) ?_
    refine T_let 1 ((z_up_k (by decide)).trans z_up_s) ?_
    refine T_rI ?_
    refine T_if1 (by decide) ?_
    refine T_if1 (by decide) ?_
    refine T_of (fL_law_J451.eq_1 ..) ?_
    refine T_of (fL_law_J2073.eq_1 ..) ?_
    refine T_let 6 (by decide +kernel) ?_
    exact hr _
  · refine T_ite (fun h2 => ?_) (fun h2 => ?_)
    · refine T_rN ?_
      refine T_bI ?_
      refine T_of (fX11_pick.eq_1 ..) ?_
      refine T_if0 (by omega) ?_
      refine T_if1 (by decide +kernel) ?_
      refine T_if0 (by omega) ?_
      rcases (show p1 = 0 ∨ p1 = 1 ∨ p1 = 2 ∨ p1 = 3 ∨ p1 = 4 ∨ p1 = 5 ∨ p1 = 6 ∨ p1 = 7 ∨ p1 = 8 by omega) with rfl | rfl | rfl | rfl | rfl | rfl | rfl | rfl | rfl
      · refine T_if1 (by decide +kernel) ?_
        refine T_let 12 (by decide +kernel) ?_
        refine T_of (fX11_pick_J17.eq_1 ..) ?_
        refine T_rI ?_
        refine T_bI ?_
        refine T_of (fX11_pick.eq_1 ..) ?_
        refine T_if0 (by decide) ?_
        refine T_if1 (by decide +kernel) ?_
        refine T_if0 (by decide) ?_
        refine T_if1 (by decide +kernel) ?_
        refine T_let 999 (by decide +kernel) ?_
        refine T_of (fX11_pick_J17.eq_1 ..) ?_
        refine T_rI ?_
        refine T_if1 (by decide +kernel) ?_
        refine T_bN ?_
        refine T_of (fX11_needWithin.eq_1 ..) ?_
        refine T_ite (fun h3 => ?_) (fun h3 => ?_)
        · refine T_of (fX11_needWithin_J10.eq_1 ..) ?_
          refine T_if1 (by decide +kernel) ?_
          refine T_let 0 (by decide +kernel) ?_
          refine T_let 1 (by decide +kernel) ?_
          refine T_if1 (by decide +kernel) ?_
          refine T_up ?_
          refine T_xN ?_
          refine T_x1I ?_
          refine T_rI ?_
          refine T_let 1 (by decide +kernel) ?_
          refine T_if1 (by decide) ?_
          refine T_let 0 q1 ?_
          refine T_let 2 (by decide +kernel) ?_
          refine T_if1 (by decide) ?_
          refine T_let p2 q2 ?_
          refine T_if1 (by decide +kernel) ?_
          refine T_bI ?_
          refine T_of (fX12_set.eq_1 ..) ?_
          refine T_if1 (by decide +kernel) ?_
          refine T_up0 ((z_up_k (by decide)).trans (by decide +kernel)) ?_
          refine T_bI ?_
          refine T_of (fX12_more.eq_1 ..) ?_
          refine T_if1 (by decide) ?_
          refine T_of (fX12_more_J10.eq_1 ..) ?_
          refine T_rI ?_
          refine T_bI ?_
          refine T_of (fX12_less.eq_1 ..) ?_
          refine T_if0 (by decide) ?_
          refine T_of (fX12_less_J10.eq_1 ..) ?_
          refine T_rI ?_
          refine T_if0 (by decide) ?_
          refine T_if1 (by decide +kernel) ?_
          refine T_let 313 (by decide +kernel) ?_
          refine T_if1 (by decide +kernel) ?_
          refine T_let 12 ((z_up_k (by decide)).trans (by decide +kernel)) ?_
          refine T_if1 (by decide +kernel) ?_
          refine T_let 314 (by decide +kernel) ?_
          refine T_if1 (by decide +kernel) ?_
          refine T_let 999 ((z_up_k (by decide)).trans (by decide +kernel)) ?_
          refine T_bI ?_
          refine T_of (fX12_in.eq_1 ..) ?_
          refine T_if1 (by omega) ?_
          refine T_of (fX12_in_J14.eq_1 ..) ?_
          refine T_of (fX12_in_J15.eq_1 ..) ?_
          refine T_if1 (by decide) ?_
          refine T_rI ?_
          refine T_if0 (by decide) ?_
          refine T_of (fX12_set_J41.eq_1 ..) ?_
          refine T_of (fX12_set_J46.eq_1 ..) ?_
          refine T_if1 (by decide +kernel) ?_
          refine T_bI ?_
          refine T_of (fX12_bad.eq_1 ..) ?_
          refine T_if0 (by decide) ?_
          refine T_if1 (by decide +kernel) ?_
          refine T_let 0 ((z_up_k (by decide)).trans (by decide +kernel)) ?_
          refine T_if0 (by decide) ?_
          refine T_if1 (by decide +kernel) ?_
          refine T_up ?_
          refine T_if1 (by decide +kernel) ?_
          refine T_let 310 (by decide +kernel) ?_
          refine T_if1 (by decide +kernel) ?_
          refine T_let 0 ((z_up_k (by decide)).trans ((z_up_k (by decide)).trans (by decide +kernel))) ?_
          refine T_let 1 (by decide +kernel) ?_
          refine T_if1 (by decide +kernel) ?_
          refine T_up ?_
          refine T_of (fX12_bad_J26.eq_1 ..) ?_
          refine T_if1 (by decide +kernel) ?_
          refine T_let 1 ((z_up_k (by decide)).trans z_up_s) ?_
          refine T_if0 (by decide) ?_
          refine T_of (fX12_bad_J38.eq_1 ..) ?_
          refine T_if1 (by decide) ?_
          refine T_rI ?_
          refine T_if0 (by decide) ?_
          refine T_rI ?_
          refine T_if1 (by decide +kernel) ?_
          refine T_bI ?_
          refine T_of (fX12_thrown.eq_1 ..) ?_
          refine T_if1 (by decide +kernel) ?_
          refine T_let 1 ((z_up_k (by decide)).trans z_up_s) ?_
          refine T_rI ?_
          refine T_if1 (by decide) ?_
          refine T_if1 (by decide) ?_
          refine T_of (fL_law_J451.eq_1 ..) ?_
          refine T_of (fL_law_J2073.eq_1 ..) ?_
          refine T_let 6 (by decide +kernel) ?_
          exact hr _
        · refine T_ite (fun h4 => ?_) (fun h4 => ?_)
          · refine T_rN ?_
            refine T_if1 (by decide +kernel) ?_
            refine T_let 2 (by decide +kernel) ?_
            refine T_if1 (by decide +kernel) ?_
            refine T_bI ?_
            refine T_of (fX7_get.eq_1 ..) ?_
            refine T_if0 (by decide) ?_
            refine T_if1 (by decide +kernel) ?_
            refine T_let 3 (by decide +kernel) ?_
            refine T_if1 (by decide +kernel) ?_
            refine T_let 9 (by decide +kernel) ?_
            refine T_if0 (by decide) ?_
            refine T_if1 (by decide +kernel) ?_
            refine T_let 3 (by decide +kernel) ?_
            refine T_if1 (by decide +kernel) ?_
            refine T_let 120 (by decide +kernel) ?_
            refine T_of (fX7_get_J23.eq_1 ..) ?_
            refine T_rI ?_
            refine T_if1 (by decide +kernel) ?_
            refine T_let 2 (by decide +kernel) ?_
            refine T_if1 (by decide +kernel) ?_
            refine T_bN ?_
            refine T_of (fX7_put.eq_1 ..) ?_
            refine T_if0 (by decide) ?_
            refine T_if1 (by decide +kernel) ?_
            refine T_let 3 (by decide +kernel) ?_
            refine T_if1 (by decide +kernel) ?_
            refine T_let 9 (by decide +kernel) ?_
            refine T_if0 (by decide) ?_
            refine T_if1 (by decide +kernel) ?_
            refine T_let 3 (by decide +kernel) ?_
            refine T_if1 (by decide +kernel) ?_
            refine T_up ?_
            refine T_of (fX7_put_J20.eq_1 ..) ?_
            refine T_rN ?_
            refine T_if1 (by decide +kernel) ?_
            refine T_up0 ((z_up_k (by decide)).trans (by decide +kernel)) ?_
            refine T_if1 (by decide) ?_
            refine T_of (fX11_set_J79.eq_1 ..) ?_
            refine T_rcI ?_
            refine T_if1 (by decide +kernel) ?_
            refine T_up ?_
            refine T_rI ?_
            refine T_let 1 (by decide +kernel) ?_
            refine T_if1 (by decide) ?_
            refine T_let 0 q1 ?_
            refine T_let 2 (by decide +kernel) ?_
            refine T_if1 (by decide) ?_
            refine T_let p2 q2 ?_
            refine T_if1 (by decide +kernel) ?_
            refine T_bI ?_
            refine T_of (fX12_set.eq_1 ..) ?_
            refine T_if1 (by decide +kernel) ?_
            refine T_up0 ((z_up_k (by decide)).trans ((z_up_k (by decide)).trans (by decide +kernel))) ?_
            refine T_bI ?_
            refine T_of (fX12_more.eq_1 ..) ?_
            refine T_if1 (by decide) ?_
            refine T_of (fX12_more_J10.eq_1 ..) ?_
            refine T_rI ?_
            refine T_bI ?_
            refine T_of (fX12_less.eq_1 ..) ?_
            refine T_if0 (by decide) ?_
            refine T_of (fX12_less_J10.eq_1 ..) ?_
            refine T_rI ?_
            refine T_if0 (by decide) ?_
            refine T_if1 (by decide +kernel) ?_
            refine T_let 313 (by decide +kernel) ?_
            refine T_if1 (by decide +kernel) ?_
            refine T_let 12 ((z_up_k (by decide)).trans ((z_up_k (by decide)).trans (by decide +kernel))) ?_
            refine T_if1 (by decide +kernel) ?_
            refine T_let 314 (by decide +kernel) ?_
            refine T_if1 (by decide +kernel) ?_
            refine T_let 999 ((z_up_k (by decide)).trans ((z_up_k (by decide)).trans (by decide +kernel))) ?_
            refine T_bI ?_
            refine T_of (fX12_in.eq_1 ..) ?_
            refine T_if0 (by omega) ?_
            refine T_if0 (by omega) ?_
            refine T_of (fX12_in_J15.eq_1 ..) ?_
            refine T_if1 (by decide) ?_
            refine T_rI ?_
            refine T_if1 (by decide) ?_
            refine T_of (fX12_set_J46.eq_1 ..) ?_
            refine T_if1 (by decide +kernel) ?_
            refine T_bI ?_
            refine T_of (fX12_bad.eq_1 ..) ?_
            refine T_if1 (by decide) ?_
            refine T_of (fX12_bad_J26.eq_1 ..) ?_
            refine T_if1 (by decide +kernel) ?_
            refine T_let 0 ((z_up_k (by decide)).trans ((z_up_k (by decide)).trans (by decide +kernel))) ?_
            refine T_if1 (by decide) ?_
            refine T_of (fX12_bad_J38.eq_1 ..) ?_
            refine T_if1 (by decide) ?_
            refine T_rI ?_
            refine T_if1 (by decide) ?_
            refine T_if1 (by decide +kernel) ?_
            refine T_let 312 (by decide +kernel) ?_
            refine T_if1 (by decide +kernel) ?_
            refine T_let 120 ((z_up_k (by decide)).trans ((z_up_k (by decide)).trans (by decide +kernel))) ?_
            refine T_if1 (by decide +kernel) ?_
            refine T_let 312 (by decide +kernel) ?_
            refine T_if1 (by decide +kernel) ?_
            refine T_up ?_
            refine T_if1 (by decide +kernel) ?_
            refine T_up0 ((z_up_k (by decide)).trans ((z_up_k (by decide)).trans ((z_up_k (by decide)).trans (by decide +kernel)))) ?_
            refine T_rI ?_
            refine T_if1 (by decide +kernel) ?_
            refine T_bI ?_
            refine T_of (fX12_thrown.eq_1 ..) ?_
            refine T_if1 (by decide +kernel) ?_
            refine T_let 0 ((z_up_k (by decide)).trans ((z_up_k (by decide)).trans ((z_up_k (by decide)).trans (by decide +kernel)))) ?_
            refine T_rI ?_
            refine T_if1 (by decide) ?_
            refine T_if0 (by decide) ?_
            refine T_if1 (by decide +kernel) ?_
            refine T_let 120 ((z_up_k (by decide)).trans z_up_s) ?_
            refine T_let 0 (by decide +kernel) ?_
            refine T_if1 (by decide) ?_
            refine T_of (fL_law_J451.eq_1 ..) ?_
            refine T_of (fL_law_J2073.eq_1 ..) ?_
            refine T_let 6 (by decide +kernel) ?_
            exact hr _
          · refine T_of (fX11_needWithin_J10.eq_1 ..) ?_
            refine T_if1 (by decide +kernel) ?_
            refine T_let 0 (by decide +kernel) ?_
            refine T_let 1 (by decide +kernel) ?_
            refine T_if1 (by decide +kernel) ?_
            refine T_up ?_
            refine T_xN ?_
            refine T_x1I ?_
            refine T_rI ?_
            refine T_let 1 (by decide +kernel) ?_
            refine T_if1 (by decide) ?_
            refine T_let 0 q1 ?_
            refine T_let 2 (by decide +kernel) ?_
            refine T_if1 (by decide) ?_
            refine T_let p2 q2 ?_
            refine T_if1 (by decide +kernel) ?_
            refine T_bI ?_
            refine T_of (fX12_set.eq_1 ..) ?_
            refine T_if1 (by decide +kernel) ?_
            refine T_up0 ((z_up_k (by decide)).trans (by decide +kernel)) ?_
            refine T_bI ?_
            refine T_of (fX12_more.eq_1 ..) ?_
            refine T_if1 (by decide) ?_
            refine T_of (fX12_more_J10.eq_1 ..) ?_
            refine T_rI ?_
            refine T_bI ?_
            refine T_of (fX12_less.eq_1 ..) ?_
            refine T_if0 (by decide) ?_
            refine T_of (fX12_less_J10.eq_1 ..) ?_
            refine T_rI ?_
            refine T_if0 (by decide) ?_
            refine T_if1 (by decide +kernel) ?_
            refine T_let 313 (by decide +kernel) ?_
            refine T_if1 (by decide +kernel) ?_
            refine T_let 12 ((z_up_k (by decide)).trans (by decide +kernel)) ?_
            refine T_if1 (by decide +kernel) ?_
            refine T_let 314 (by decide +kernel) ?_
            refine T_if1 (by decide +kernel) ?_
            refine T_let 999 ((z_up_k (by decide)).trans (by decide +kernel)) ?_
            refine T_bI ?_
            refine T_of (fX12_in.eq_1 ..) ?_
            refine T_if0 (by omega) ?_
            refine T_if1 (by omega) ?_
            refine T_of (fX12_in_J14.eq_1 ..) ?_
            refine T_of (fX12_in_J15.eq_1 ..) ?_
            refine T_if1 (by decide) ?_
            refine T_rI ?_
            refine T_if0 (by decide) ?_
            refine T_of (fX12_set_J41.eq_1 ..) ?_
            refine T_of (fX12_set_J46.eq_1 ..) ?_
            refine T_if1 (by decide +kernel) ?_
            refine T_bI ?_
            refine T_of (fX12_bad.eq_1 ..) ?_
            refine T_if0 (by decide) ?_
            refine T_if1 (by decide +kernel) ?_
            refine T_let 0 ((z_up_k (by decide)).trans (by decide +kernel)) ?_
            refine T_if0 (by decide) ?_
            refine T_if1 (by decide +kernel) ?_
            refine T_up ?_
            refine T_if1 (by decide +kernel) ?_
            refine T_let 310 (by decide +kernel) ?_
            refine T_if1 (by decide +kernel) ?_
            refine T_let 0 ((z_up_k (by decide)).trans ((z_up_k (by decide)).trans (by decide +kernel))) ?_
            refine T_let 1 (by decide +kernel) ?_
            refine T_if1 (by decide +kernel) ?_
            refine T_up ?_
            refine T_of (fX12_bad_J26.eq_1 ..) ?_
            refine T_if1 (by decide +kernel) ?_
            refine T_let 1 ((z_up_k (by decide)).trans z_up_s) ?_
            refine T_if0 (by decide) ?_
            refine T_of (fX12_bad_J38.eq_1 ..) ?_
            refine T_if1 (by decide) ?_
            refine T_rI ?_
            refine T_if0 (by decide) ?_
            refine T_rI ?_
            refine T_if1 (by decide +kernel) ?_
            refine T_bI ?_
            refine T_of (fX12_thrown.eq_1 ..) ?_
            refine T_if1 (by decide +kernel) ?_
            refine T_let 1 ((z_up_k (by decide)).trans z_up_s) ?_
            refine T_rI ?_
            refine T_if1 (by decide) ?_
            refine T_if1 (by decide) ?_
            refine T_of (fL_law_J451.eq_1 ..) ?_
            refine T_of (fL_law_J2073.eq_1 ..) ?_
            refine T_let 6 (by decide +kernel) ?_
            exact hr _
      · refine T_if1 (by decide +kernel) ?_
        refine T_let 0 (by decide +kernel) ?_
        refine T_of (fX11_pick_J17.eq_1 ..) ?_
        refine T_rI ?_
        refine T_bI ?_
        refine T_of (fX11_pick.eq_1 ..) ?_
        refine T_if0 (by decide) ?_
        refine T_if1 (by decide +kernel) ?_
        refine T_if0 (by decide) ?_
        refine T_if1 (by decide +kernel) ?_
        refine T_let 4 (by decide +kernel) ?_
        refine T_of (fX11_pick_J17.eq_1 ..) ?_
        refine T_rI ?_
        refine T_if1 (by decide +kernel) ?_
        refine T_bN ?_
        refine T_of (fX11_needWithin.eq_1 ..) ?_
        refine T_ite (fun h5 => ?_) (fun h5 => ?_)
        · refine T_of (fX11_needWithin_J10.eq_1 ..) ?_
          refine T_if1 (by decide +kernel) ?_
          refine T_let 0 (by decide +kernel) ?_
          refine T_let 1 (by decide +kernel) ?_
          refine T_if1 (by decide +kernel) ?_
          refine T_up ?_
          refine T_xN ?_
          refine T_x1I ?_
          refine T_rI ?_
          refine T_let 1 (by decide +kernel) ?_
          refine T_if1 (by decide) ?_
          refine T_let 1 q1 ?_
          refine T_let 2 (by decide +kernel) ?_
          refine T_if1 (by decide) ?_
          refine T_let p2 q2 ?_
          refine T_if1 (by decide +kernel) ?_
          refine T_bI ?_
          refine T_of (fX12_set.eq_1 ..) ?_
          refine T_if1 (by decide +kernel) ?_
          refine T_up0 ((z_up_k (by decide)).trans (by decide +kernel)) ?_
          refine T_bI ?_
          refine T_of (fX12_more.eq_1 ..) ?_
          refine T_if0 (by decide) ?_
          refine T_of (fX12_more_J10.eq_1 ..) ?_
          refine T_rI ?_
          refine T_bI ?_
          refine T_of (fX12_less.eq_1 ..) ?_
          refine T_if0 (by decide) ?_
          refine T_of (fX12_less_J10.eq_1 ..) ?_
          refine T_rI ?_
          refine T_if0 (by decide) ?_
          refine T_if1 (by decide +kernel) ?_
          refine T_let 313 (by decide +kernel) ?_
          refine T_if1 (by decide +kernel) ?_
          refine T_let 0 ((z_up_k (by decide)).trans (by decide +kernel)) ?_
          refine T_if1 (by decide +kernel) ?_
          refine T_let 314 (by decide +kernel) ?_
          refine T_if1 (by decide +kernel) ?_
          refine T_let 4 ((z_up_k (by decide)).trans (by decide +kernel)) ?_
          refine T_bI ?_
          refine T_of (fX12_in.eq_1 ..) ?_
          refine T_if1 (by omega) ?_
          refine T_of (fX12_in_J14.eq_1 ..) ?_
          refine T_of (fX12_in_J15.eq_1 ..) ?_
          refine T_if1 (by decide) ?_
          refine T_rI ?_
          refine T_if0 (by decide) ?_
          refine T_of (fX12_set_J41.eq_1 ..) ?_
          refine T_of (fX12_set_J46.eq_1 ..) ?_
          refine T_if1 (by decide +kernel) ?_
          refine T_bI ?_
          refine T_of (fX12_bad.eq_1 ..) ?_
          refine T_if0 (by decide) ?_
          refine T_if1 (by decide +kernel) ?_
          refine T_let 0 ((z_up_k (by decide)).trans (by decide +kernel)) ?_
          refine T_if0 (by decide) ?_
          refine T_if1 (by decide +kernel) ?_
          refine T_up ?_
          refine T_if1 (by decide +kernel) ?_
          refine T_let 310 (by decide +kernel) ?_
          refine T_if1 (by decide +kernel) ?_
          refine T_let 0 ((z_up_k (by decide)).trans ((z_up_k (by decide)).trans (by decide +kernel))) ?_
          refine T_let 1 (by decide +kernel) ?_
          refine T_if1 (by decide +kernel) ?_
          refine T_up ?_
          refine T_of (fX12_bad_J26.eq_1 ..) ?_
          refine T_if1 (by decide +kernel) ?_
          refine T_let 1 ((z_up_k (by decide)).trans z_up_s) ?_
          refine T_if0 (by decide) ?_
          refine T_of (fX12_bad_J38.eq_1 ..) ?_
          refine T_if1 (by decide) ?_
          refine T_rI ?_
          refine T_if0 (by decide) ?_
          refine T_rI ?_
          refine T_if1 (by decide +kernel) ?_
          refine T_bI ?_
          refine T_of (fX12_thrown.eq_1 ..) ?_
          refine T_if1 (by decide +kernel) ?_
          refine T_let 1 ((z_up_k (by decide)).trans z_up_s) ?_
          refine T_rI ?_
          refine T_if1 (by decide) ?_
          refine T_if1 (by decide) ?_
          refine T_of (fL_law_J451.eq_1 ..) ?_
          refine T_of (fL_law_J2073.eq_1 ..) ?_
          refine T_let 6 (by decide +kernel) ?_
          exact hr _
        · refine T_ite (fun h6 => ?_) (fun h6 => ?_)
          · refine T_rN ?_
            refine T_if1 (by decide +kernel) ?_
            refine T_let 2 (by decide +kernel) ?_
            refine T_if1 (by decide +kernel) ?_
            refine T_bI ?_
            refine T_of (fX7_get.eq_1 ..) ?_
            refine T_if0 (by decide) ?_
            refine T_if1 (by decide +kernel) ?_
            refine T_let 3 (by decide +kernel) ?_
            refine T_if1 (by decide +kernel) ?_
            refine T_let 9 (by decide +kernel) ?_
            refine T_if0 (by decide) ?_
            refine T_if1 (by decide +kernel) ?_
            refine T_let 3 (by decide +kernel) ?_
            refine T_if1 (by decide +kernel) ?_
            refine T_let 2 (by decide +kernel) ?_
            refine T_of (fX7_get_J23.eq_1 ..) ?_
            refine T_rI ?_
            refine T_if1 (by decide +kernel) ?_
            refine T_let 2 (by decide +kernel) ?_
            refine T_if1 (by decide +kernel) ?_
            refine T_bN ?_
            refine T_of (fX7_put.eq_1 ..) ?_
            refine T_if0 (by decide) ?_
            refine T_if1 (by decide +kernel) ?_
            refine T_let 3 (by decide +kernel) ?_
            refine T_if1 (by decide +kernel) ?_
            refine T_let 9 (by decide +kernel) ?_
            refine T_if0 (by decide) ?_
            refine T_if1 (by decide +kernel) ?_
            refine T_let 3 (by decide +kernel) ?_
            refine T_if1 (by decide +kernel) ?_
            refine T_up ?_
            refine T_of (fX7_put_J20.eq_1 ..) ?_
            refine T_rN ?_
            refine T_if1 (by decide +kernel) ?_
            refine T_up0 ((z_up_k (by decide)).trans (by decide +kernel)) ?_
            refine T_if0 (by decide) ?_
            refine T_if0 (by decide) ?_
            refine T_if0 (by decide) ?_
            refine T_if0 (by decide) ?_
            refine T_if1 (by decide +kernel) ?_
            refine T_up0 ((z_up_k (by decide)).trans (by decide +kernel)) ?_
            refine T_of (fX11_set_J79.eq_1 ..) ?_
            refine T_rcI ?_
            refine T_if1 (by decide +kernel) ?_
            refine T_up ?_
            refine T_rI ?_
            refine T_let 1 (by decide +kernel) ?_
            refine T_if1 (by decide) ?_
            refine T_let 1 q1 ?_
            refine T_let 2 (by decide +kernel) ?_
            refine T_if1 (by decide) ?_
            refine T_let p2 q2 ?_
            refine T_if1 (by decide +kernel) ?_
            refine T_bI ?_
            refine T_of (fX12_set.eq_1 ..) ?_
            refine T_if1 (by decide +kernel) ?_
            refine T_up0 ((z_up_k (by decide)).trans ((z_up_k (by decide)).trans (by decide +kernel))) ?_
            refine T_bI ?_
            refine T_of (fX12_more.eq_1 ..) ?_
            refine T_if0 (by decide) ?_
            refine T_of (fX12_more_J10.eq_1 ..) ?_
            refine T_rI ?_
            refine T_bI ?_
            refine T_of (fX12_less.eq_1 ..) ?_
            refine T_if0 (by decide) ?_
            refine T_of (fX12_less_J10.eq_1 ..) ?_
            refine T_rI ?_
            refine T_if0 (by decide) ?_
            refine T_if1 (by decide +kernel) ?_
            refine T_let 313 (by decide +kernel) ?_
            refine T_if1 (by decide +kernel) ?_
            refine T_let 0 ((z_up_k (by decide)).trans ((z_up_k (by decide)).trans (by decide +kernel))) ?_
            refine T_if1 (by decide +kernel) ?_
            refine T_let 314 (by decide +kernel) ?_
            refine T_if1 (by decide +kernel) ?_
            refine T_let 4 ((z_up_k (by decide)).trans ((z_up_k (by decide)).trans (by decide +kernel))) ?_
            refine T_bI ?_
            refine T_of (fX12_in.eq_1 ..) ?_
            refine T_if0 (by omega) ?_
            refine T_if0 (by omega) ?_
            refine T_of (fX12_in_J15.eq_1 ..) ?_
            refine T_if1 (by decide) ?_
            refine T_rI ?_
            refine T_if1 (by decide) ?_
            refine T_of (fX12_set_J46.eq_1 ..) ?_
            refine T_if1 (by decide +kernel) ?_
            refine T_bI ?_
            refine T_of (fX12_bad.eq_1 ..) ?_
            refine T_if1 (by decide) ?_
            refine T_of (fX12_bad_J26.eq_1 ..) ?_
            refine T_if1 (by decide +kernel) ?_
            refine T_let 0 ((z_up_k (by decide)).trans ((z_up_k (by decide)).trans (by decide +kernel))) ?_
            refine T_if1 (by decide) ?_
            refine T_of (fX12_bad_J38.eq_1 ..) ?_
            refine T_if1 (by decide) ?_
            refine T_rI ?_
            refine T_if1 (by decide) ?_
            refine T_if1 (by decide +kernel) ?_
            refine T_let 312 (by decide +kernel) ?_
            refine T_if1 (by decide +kernel) ?_
            refine T_let 2 ((z_up_k (by decide)).trans ((z_up_k (by decide)).trans (by decide +kernel))) ?_
            refine T_if1 (by decide +kernel) ?_
            refine T_let 312 (by decide +kernel) ?_
            refine T_if1 (by decide +kernel) ?_
            refine T_up ?_
            refine T_if1 (by decide +kernel) ?_
            refine T_up0 ((z_up_k (by decide)).trans ((z_up_k (by decide)).trans ((z_up_k (by decide)).trans (by decide +kernel)))) ?_
            refine T_rI ?_
            refine T_if1 (by decide +kernel) ?_
            refine T_bI ?_
            refine T_of (fX12_thrown.eq_1 ..) ?_
            refine T_if1 (by decide +kernel) ?_
            refine T_let 0 ((z_up_k (by decide)).trans ((z_up_k (by decide)).trans ((z_up_k (by decide)).trans (by decide +kernel)))) ?_
            refine T_rI ?_
            refine T_if1 (by decide) ?_
            refine T_if0 (by decide) ?_
            refine T_if1 (by decide +kernel) ?_
            refine T_let 2 ((z_up_k (by decide)).trans z_up_s) ?_
            refine T_let 0 (by decide +kernel) ?_
            refine T_if1 (by decide) ?_
            refine T_of (fL_law_J451.eq_1 ..) ?_
            refine T_of (fL_law_J2073.eq_1 ..) ?_
            refine T_let 6 (by decide +kernel) ?_
            exact hr _
          · refine T_of (fX11_needWithin_J10.eq_1 ..) ?_
            refine T_if1 (by decide +kernel) ?_
            refine T_let 0 (by decide +kernel) ?_
            refine T_let 1 (by decide +kernel) ?_
            refine T_if1 (by decide +kernel) ?_
            refine T_up ?_
            refine T_xN ?_
            refine T_x1I ?_
            refine T_rI ?_
            refine T_let 1 (by decide +kernel) ?_
            refine T_if1 (by decide) ?_
            refine T_let 1 q1 ?_
            refine T_let 2 (by decide +kernel) ?_
            refine T_if1 (by decide) ?_
            refine T_let p2 q2 ?_
            refine T_if1 (by decide +kernel) ?_
            refine T_bI ?_
            refine T_of (fX12_set.eq_1 ..) ?_
            refine T_if1 (by decide +kernel) ?_
            refine T_up0 ((z_up_k (by decide)).trans (by decide +kernel)) ?_
            refine T_bI ?_
            refine T_of (fX12_more.eq_1 ..) ?_
            refine T_if0 (by decide) ?_
            refine T_of (fX12_more_J10.eq_1 ..) ?_
            refine T_rI ?_
            refine T_bI ?_
            refine T_of (fX12_less.eq_1 ..) ?_
            refine T_if0 (by decide) ?_
            refine T_of (fX12_less_J10.eq_1 ..) ?_
            refine T_rI ?_
            refine T_if0 (by decide) ?_
            refine T_if1 (by decide +kernel) ?_
            refine T_let 313 (by decide +kernel) ?_
            refine T_if1 (by decide +kernel) ?_
            refine T_let 0 ((z_up_k (by decide)).trans (by decide +kernel)) ?_
            refine T_if1 (by decide +kernel) ?_
            refine T_let 314 (by decide +kernel) ?_
            refine T_if1 (by decide +kernel) ?_
            refine T_let 4 ((z_up_k (by decide)).trans (by decide +kernel)) ?_
            refine T_bI ?_
            refine T_of (fX12_in.eq_1 ..) ?_
            refine T_if0 (by omega) ?_
            refine T_if1 (by omega) ?_
            refine T_of (fX12_in_J14.eq_1 ..) ?_
            refine T_of (fX12_in_J15.eq_1 ..) ?_
            refine T_if1 (by decide) ?_
            refine T_rI ?_
            refine T_if0 (by decide) ?_
            refine T_of (fX12_set_J41.eq_1 ..) ?_
            refine T_of (fX12_set_J46.eq_1 ..) ?_
            refine T_if1 (by decide +kernel) ?_
            refine T_bI ?_
            refine T_of (fX12_bad.eq_1 ..) ?_
            refine T_if0 (by decide) ?_
            refine T_if1 (by decide +kernel) ?_
            refine T_let 0 ((z_up_k (by decide)).trans (by decide +kernel)) ?_
            refine T_if0 (by decide) ?_
            refine T_if1 (by decide +kernel) ?_
            refine T_up ?_
            refine T_if1 (by decide +kernel) ?_
            refine T_let 310 (by decide +kernel) ?_
            refine T_if1 (by decide +kernel) ?_
            refine T_let 0 ((z_up_k (by decide)).trans ((z_up_k (by decide)).trans (by decide +kernel))) ?_
            refine T_let 1 (by decide +kernel) ?_
            refine T_if1 (by decide +kernel) ?_
            refine T_up ?_
            refine T_of (fX12_bad_J26.eq_1 ..) ?_
            refine T_if1 (by decide +kernel) ?_
            refine T_let 1 ((z_up_k (by decide)).trans z_up_s) ?_
            refine T_if0 (by decide) ?_
            refine T_of (fX12_bad_J38.eq_1 ..) ?_
            refine T_if1 (by decide) ?_
            refine T_rI ?_
            refine T_if0 (by decide) ?_
            refine T_rI ?_
            refine T_if1 (by decide +kernel) ?_
            refine T_bI ?_
            refine T_of (fX12_thrown.eq_1 ..) ?_
            refine T_if1 (by decide +kernel) ?_
            refine T_let 1 ((z_up_k (by decide)).trans z_up_s) ?_
            refine T_rI ?_
            refine T_if1 (by decide) ?_
            refine T_if1 (by decide) ?_
            refine T_of (fL_law_J451.eq_1 ..) ?_
            refine T_of (fL_law_J2073.eq_1 ..) ?_
            refine T_let 6 (by decide +kernel) ?_
            exact hr _
      · refine T_if1 (by decide +kernel) ?_
        refine T_let 0 (by decide +kernel) ?_
        refine T_of (fX11_pick_J17.eq_1 ..) ?_
        refine T_rI ?_
        refine T_bI ?_
        refine T_of (fX11_pick.eq_1 ..) ?_
        refine T_if0 (by decide) ?_
        refine T_if1 (by decide +kernel) ?_
        refine T_if0 (by decide) ?_
        refine T_if1 (by decide +kernel) ?_
        refine T_let 6 (by decide +kernel) ?_
        refine T_of (fX11_pick_J17.eq_1 ..) ?_
        refine T_rI ?_
        refine T_if1 (by decide +kernel) ?_
        refine T_bN ?_
        refine T_of (fX11_needWithin.eq_1 ..) ?_
        refine T_ite (fun h7 => ?_) (fun h7 => ?_)
        · refine T_of (fX11_needWithin_J10.eq_1 ..) ?_
          refine T_if1 (by decide +kernel) ?_
          refine T_let 0 (by decide +kernel) ?_
          refine T_let 1 (by decide +kernel) ?_
          refine T_if1 (by decide +kernel) ?_
          refine T_up ?_
          refine T_xN ?_
          refine T_x1I ?_
          refine T_rI ?_
          refine T_let 1 (by decide +kernel) ?_
          refine T_if1 (by decide) ?_
          refine T_let 2 q1 ?_
          refine T_let 2 (by decide +kernel) ?_
          refine T_if1 (by decide) ?_
          refine T_let p2 q2 ?_
          refine T_if1 (by decide +kernel) ?_
          refine T_bI ?_
          refine T_of (fX12_set.eq_1 ..) ?_
          refine T_if1 (by decide +kernel) ?_
          refine T_up0 ((z_up_k (by decide)).trans (by decide +kernel)) ?_
          refine T_bI ?_
          refine T_of (fX12_more.eq_1 ..) ?_
          refine T_if0 (by decide) ?_
          refine T_of (fX12_more_J10.eq_1 ..) ?_
          refine T_rI ?_
          refine T_bI ?_
          refine T_of (fX12_less.eq_1 ..) ?_
          refine T_if0 (by decide) ?_
          refine T_of (fX12_less_J10.eq_1 ..) ?_
          refine T_rI ?_
          refine T_if0 (by decide) ?_
          refine T_if1 (by decide +kernel) ?_
          refine T_let 313 (by decide +kernel) ?_
          refine T_if1 (by decide +kernel) ?_
          refine T_let 0 ((z_up_k (by decide)).trans (by decide +kernel)) ?_
          refine T_if1 (by decide +kernel) ?_
          refine T_let 314 (by decide +kernel) ?_
          refine T_if1 (by decide +kernel) ?_
          refine T_let 6 ((z_up_k (by decide)).trans (by decide +kernel)) ?_
          refine T_bI ?_
          refine T_of (fX12_in.eq_1 ..) ?_
          refine T_if1 (by omega) ?_
          refine T_of (fX12_in_J14.eq_1 ..) ?_
          refine T_of (fX12_in_J15.eq_1 ..) ?_
          refine T_if1 (by decide) ?_
          refine T_rI ?_
          refine T_if0 (by decide) ?_
          refine T_of (fX12_set_J41.eq_1 ..) ?_
          refine T_of (fX12_set_J46.eq_1 ..) ?_
          refine T_if1 (by decide +kernel) ?_
          refine T_bI ?_
          refine T_of (fX12_bad.eq_1 ..) ?_
          refine T_if0 (by decide) ?_
          refine T_if1 (by decide +kernel) ?_
          refine T_let 0 ((z_up_k (by decide)).trans (by decide +kernel)) ?_
          refine T_if0 (by decide) ?_
          refine T_if1 (by decide +kernel) ?_
          refine T_up ?_
          refine T_if1 (by decide +kernel) ?_
          refine T_let 310 (by decide +kernel) ?_
          refine T_if1 (by decide +kernel) ?_
          refine T_let 0 ((z_up_k (by decide)).trans ((z_up_k (by decide)).trans (by decide +kernel))) ?_
          refine T_let 1 (by decide +kernel) ?_
          refine T_if1 (by decide +kernel) ?_
          refine T_up ?_
          refine T_of (fX12_bad_J26.eq_1 ..) ?_
          refine T_if1 (by decide +kernel) ?_
          refine T_let 1 ((z_up_k (by decide)).trans z_up_s) ?_
          refine T_if0 (by decide) ?_
          refine T_of (fX12_bad_J38.eq_1 ..) ?_
          refine T_if1 (by decide) ?_
          refine T_rI ?_
          refine T_if0 (by decide) ?_
          refine T_rI ?_
          refine T_if1 (by decide +kernel) ?_
          refine T_bI ?_
          refine T_of (fX12_thrown.eq_1 ..) ?_
          refine T_if1 (by decide +kernel) ?_
          refine T_let 1 ((z_up_k (by decide)).trans z_up_s) ?_
          refine T_rI ?_
          refine T_if1 (by decide) ?_
          refine T_if1 (by decide) ?_
          refine T_of (fL_law_J451.eq_1 ..) ?_
          refine T_of (fL_law_J2073.eq_1 ..) ?_
          refine T_let 6 (by decide +kernel) ?_
          exact hr _
        · refine T_ite (fun h8 => ?_) (fun h8 => ?_)
          · refine T_rN ?_
            refine T_if1 (by decide +kernel) ?_
            refine T_let 2 (by decide +kernel) ?_
            refine T_if1 (by decide +kernel) ?_
            refine T_bI ?_
            refine T_of (fX7_get.eq_1 ..) ?_
            refine T_if0 (by decide) ?_
            refine T_if1 (by decide +kernel) ?_
            refine T_let 3 (by decide +kernel) ?_
            refine T_if1 (by decide +kernel) ?_
            refine T_let 9 (by decide +kernel) ?_
            refine T_if0 (by decide) ?_
            refine T_if1 (by decide +kernel) ?_
            refine T_let 3 (by decide +kernel) ?_
            refine T_if1 (by decide +kernel) ?_
            refine T_let 3 (by decide +kernel) ?_
            refine T_of (fX7_get_J23.eq_1 ..) ?_
            refine T_rI ?_
            refine T_if1 (by decide +kernel) ?_
            refine T_let 2 (by decide +kernel) ?_
            refine T_if1 (by decide +kernel) ?_
            refine T_bN ?_
            refine T_of (fX7_put.eq_1 ..) ?_
            refine T_if0 (by decide) ?_
            refine T_if1 (by decide +kernel) ?_
            refine T_let 3 (by decide +kernel) ?_
            refine T_if1 (by decide +kernel) ?_
            refine T_let 9 (by decide +kernel) ?_
            refine T_if0 (by decide) ?_
            refine T_if1 (by decide +kernel) ?_
            refine T_let 3 (by decide +kernel) ?_
            refine T_if1 (by decide +kernel) ?_
            refine T_up ?_
            refine T_of (fX7_put_J20.eq_1 ..) ?_
            refine T_rN ?_
            refine T_if1 (by decide +kernel) ?_
            refine T_up0 ((z_up_k (by decide)).trans (by decide +kernel)) ?_
            refine T_if0 (by decide) ?_
            refine T_if0 (by decide) ?_
            refine T_if0 (by decide) ?_
            refine T_if0 (by decide) ?_
            refine T_if1 (by decide +kernel) ?_
            refine T_up0 ((z_up_k (by decide)).trans (by decide +kernel)) ?_
            refine T_of (fX11_set_J79.eq_1 ..) ?_
            refine T_rcI ?_
            refine T_if1 (by decide +kernel) ?_
            refine T_up ?_
            refine T_rI ?_
            refine T_let 1 (by decide +kernel) ?_
            refine T_if1 (by decide) ?_
            refine T_let 2 q1 ?_
            refine T_let 2 (by decide +kernel) ?_
            refine T_if1 (by decide) ?_
            refine T_let p2 q2 ?_
            refine T_if1 (by decide +kernel) ?_
            refine T_bI ?_
            refine T_of (fX12_set.eq_1 ..) ?_
            refine T_if1 (by decide +kernel) ?_
            refine T_up0 ((z_up_k (by decide)).trans ((z_up_k (by decide)).trans (by decide +kernel))) ?_
            refine T_bI ?_
            refine T_of (fX12_more.eq_1 ..) ?_
            refine T_if0 (by decide) ?_
            refine T_of (fX12_more_J10.eq_1 ..) ?_
            refine T_rI ?_
            refine T_bI ?_
            refine T_of (fX12_less.eq_1 ..) ?_
            refine T_if0 (by decide) ?_
            refine T_of (fX12_less_J10.eq_1 ..) ?_
            refine T_rI ?_
            refine T_if0 (by decide) ?_
            refine T_if1 (by decide +kernel) ?_
            refine T_let 313 (by decide +kernel) ?_
            refine T_if1 (by decide +kernel) ?_
            refine T_let 0 ((z_up_k (by decide)).trans ((z_up_k (by decide)).trans (by decide +kernel))) ?_
            refine T_if1 (by decide +kernel) ?_
            refine T_let 314 (by decide +kernel) ?_
            refine T_if1 (by decide +kernel) ?_
            refine T_let 6 ((z_up_k (by decide)).trans ((z_up_k (by decide)).trans (by decide +kernel))) ?_
            refine T_bI ?_
            refine T_of (fX12_in.eq_1 ..) ?_
            refine T_if0 (by omega) ?_
            refine T_if0 (by omega) ?_
            refine T_of (fX12_in_J15.eq_1 ..) ?_
            refine T_if1 (by decide) ?_
            refine T_rI ?_
            refine T_if1 (by decide) ?_
            refine T_of (fX12_set_J46.eq_1 ..) ?_
            refine T_if1 (by decide +kernel) ?_
            refine T_bI ?_
            refine T_of (fX12_bad.eq_1 ..) ?_
            refine T_if1 (by decide) ?_
            refine T_of (fX12_bad_J26.eq_1 ..) ?_
            refine T_if1 (by decide +kernel) ?_
            refine T_let 0 ((z_up_k (by decide)).trans ((z_up_k (by decide)).trans (by decide +kernel))) ?_
            refine T_if1 (by decide) ?_
            refine T_of (fX12_bad_J38.eq_1 ..) ?_
            refine T_if1 (by decide) ?_
            refine T_rI ?_
            refine T_if1 (by decide) ?_
            refine T_if1 (by decide +kernel) ?_
            refine T_let 312 (by decide +kernel) ?_
            refine T_if1 (by decide +kernel) ?_
            refine T_let 3 ((z_up_k (by decide)).trans ((z_up_k (by decide)).trans (by decide +kernel))) ?_
            refine T_if1 (by decide +kernel) ?_
            refine T_let 312 (by decide +kernel) ?_
            refine T_if1 (by decide +kernel) ?_
            refine T_up ?_
            refine T_if1 (by decide +kernel) ?_
            refine T_up0 ((z_up_k (by decide)).trans ((z_up_k (by decide)).trans ((z_up_k (by decide)).trans (by decide +kernel)))) ?_
            refine T_rI ?_
            refine T_if1 (by decide +kernel) ?_
            refine T_bI ?_
            refine T_of (fX12_thrown.eq_1 ..) ?_
            refine T_if1 (by decide +kernel) ?_
            refine T_let 0 ((z_up_k (by decide)).trans ((z_up_k (by decide)).trans ((z_up_k (by decide)).trans (by decide +kernel)))) ?_
            refine T_rI ?_
            refine T_if1 (by decide) ?_
            refine T_if0 (by decide) ?_
            refine T_if1 (by decide +kernel) ?_
            refine T_let 3 ((z_up_k (by decide)).trans z_up_s) ?_
            refine T_let 0 (by decide +kernel) ?_
            refine T_if1 (by decide) ?_
            refine T_of (fL_law_J451.eq_1 ..) ?_
            refine T_of (fL_law_J2073.eq_1 ..) ?_
            refine T_let 6 (by decide +kernel) ?_
            exact hr _
          · refine T_of (fX11_needWithin_J10.eq_1 ..) ?_
            refine T_if1 (by decide +kernel) ?_
            refine T_let 0 (by decide +kernel) ?_
            refine T_let 1 (by decide +kernel) ?_
            refine T_if1 (by decide +kernel) ?_
            refine T_up ?_
            refine T_xN ?_
            refine T_x1I ?_
            refine T_rI ?_
            refine T_let 1 (by decide +kernel) ?_
            refine T_if1 (by decide) ?_
            refine T_let 2 q1 ?_
            refine T_let 2 (by decide +kernel) ?_
            refine T_if1 (by decide) ?_
            refine T_let p2 q2 ?_
            refine T_if1 (by decide +kernel) ?_
            refine T_bI ?_
            refine T_of (fX12_set.eq_1 ..) ?_
            refine T_if1 (by decide +kernel) ?_
            refine T_up0 ((z_up_k (by decide)).trans (by decide +kernel)) ?_
            refine T_bI ?_
            refine T_of (fX12_more.eq_1 ..) ?_
            refine T_if0 (by decide) ?_
            refine T_of (fX12_more_J10.eq_1 ..) ?_
            refine T_rI ?_
            refine T_bI ?_
            refine T_of (fX12_less.eq_1 ..) ?_
            refine T_if0 (by decide) ?_
            refine T_of (fX12_less_J10.eq_1 ..) ?_
            refine T_rI ?_
            refine T_if0 (by decide) ?_
            refine T_if1 (by decide +kernel) ?_
            refine T_let 313 (by decide +kernel) ?_
            refine T_if1 (by decide +kernel) ?_
            refine T_let 0 ((z_up_k (by decide)).trans (by decide +kernel)) ?_
            refine T_if1 (by decide +kernel) ?_
            refine T_let 314 (by decide +kernel) ?_
            refine T_if1 (by decide +kernel) ?_
            refine T_let 6 ((z_up_k (by decide)).trans (by decide +kernel)) ?_
            refine T_bI ?_
            refine T_of (fX12_in.eq_1 ..) ?_
            refine T_if0 (by omega) ?_
            refine T_if1 (by omega) ?_
            refine T_of (fX12_in_J14.eq_1 ..) ?_
            refine T_of (fX12_in_J15.eq_1 ..) ?_
            refine T_if1 (by decide) ?_
            refine T_rI ?_
            refine T_if0 (by decide) ?_
            refine T_of (fX12_set_J41.eq_1 ..) ?_
            refine T_of (fX12_set_J46.eq_1 ..) ?_
            refine T_if1 (by decide +kernel) ?_
            refine T_bI ?_
            refine T_of (fX12_bad.eq_1 ..) ?_
            refine T_if0 (by decide) ?_
            refine T_if1 (by decide +kernel) ?_
            refine T_let 0 ((z_up_k (by decide)).trans (by decide +kernel)) ?_
            refine T_if0 (by decide) ?_
            refine T_if1 (by decide +kernel) ?_
            refine T_up ?_
            refine T_if1 (by decide +kernel) ?_
            refine T_let 310 (by decide +kernel) ?_
            refine T_if1 (by decide +kernel) ?_
            refine T_let 0 ((z_up_k (by decide)).trans ((z_up_k (by decide)).trans (by decide +kernel))) ?_
            refine T_let 1 (by decide +kernel) ?_
            refine T_if1 (by decide +kernel) ?_
            refine T_up ?_
            refine T_of (fX12_bad_J26.eq_1 ..) ?_
            refine T_if1 (by decide +kernel) ?_
            refine T_let 1 ((z_up_k (by decide)).trans z_up_s) ?_
            refine T_if0 (by decide) ?_
            refine T_of (fX12_bad_J38.eq_1 ..) ?_
            refine T_if1 (by decide) ?_
            refine T_rI ?_
            refine T_if0 (by decide) ?_
            refine T_rI ?_
            refine T_if1 (by decide +kernel) ?_
            refine T_bI ?_
            refine T_of (fX12_thrown.eq_1 ..) ?_
            refine T_if1 (by decide +kernel) ?_
            refine T_let 1 ((z_up_k (by decide)).trans z_up_s) ?_
            refine T_rI ?_
            refine T_if1 (by decide) ?_
            refine T_if1 (by decide) ?_
            refine T_of (fL_law_J451.eq_1 ..) ?_
            refine T_of (fL_law_J2073.eq_1 ..) ?_
            refine T_let 6 (by decide +kernel) ?_
            exact hr _
      · refine T_if1 (by decide +kernel) ?_
        refine T_let 0 (by decide +kernel) ?_
        refine T_of (fX11_pick_J17.eq_1 ..) ?_
        refine T_rI ?_
        refine T_bI ?_
        refine T_of (fX11_pick.eq_1 ..) ?_
        refine T_if0 (by decide) ?_
        refine T_if1 (by decide +kernel) ?_
        refine T_if0 (by decide) ?_
        refine T_if1 (by decide +kernel) ?_
        refine T_let 1 (by decide +kernel) ?_
        refine T_of (fX11_pick_J17.eq_1 ..) ?_
        refine T_rI ?_
        refine T_if1 (by decide +kernel) ?_
        refine T_bN ?_
        refine T_of (fX11_needWithin.eq_1 ..) ?_
        refine T_ite (fun h9 => ?_) (fun h9 => ?_)
        · refine T_of (fX11_needWithin_J10.eq_1 ..) ?_
          refine T_if1 (by decide +kernel) ?_
          refine T_let 0 (by decide +kernel) ?_
          refine T_let 1 (by decide +kernel) ?_
          refine T_if1 (by decide +kernel) ?_
          refine T_up ?_
          refine T_xN ?_
          refine T_x1I ?_
          refine T_rI ?_
          refine T_let 1 (by decide +kernel) ?_
          refine T_if1 (by decide) ?_
          refine T_let 3 q1 ?_
          refine T_let 2 (by decide +kernel) ?_
          refine T_if1 (by decide) ?_
          refine T_let p2 q2 ?_
          refine T_if1 (by decide +kernel) ?_
          refine T_bI ?_
          refine T_of (fX12_set.eq_1 ..) ?_
          refine T_if1 (by decide +kernel) ?_
          refine T_up0 ((z_up_k (by decide)).trans (by decide +kernel)) ?_
          refine T_bI ?_
          refine T_of (fX12_more.eq_1 ..) ?_
          refine T_if0 (by decide) ?_
          refine T_of (fX12_more_J10.eq_1 ..) ?_
          refine T_rI ?_
          refine T_bI ?_
          refine T_of (fX12_less.eq_1 ..) ?_
          refine T_if0 (by decide) ?_
          refine T_of (fX12_less_J10.eq_1 ..) ?_
          refine T_rI ?_
          refine T_if0 (by decide) ?_
          refine T_if1 (by decide +kernel) ?_
          refine T_let 313 (by decide +kernel) ?_
          refine T_if1 (by decide +kernel) ?_
          refine T_let 0 ((z_up_k (by decide)).trans (by decide +kernel)) ?_
          refine T_if1 (by decide +kernel) ?_
          refine T_let 314 (by decide +kernel) ?_
          refine T_if1 (by decide +kernel) ?_
          refine T_let 1 ((z_up_k (by decide)).trans (by decide +kernel)) ?_
          refine T_bI ?_
          refine T_of (fX12_in.eq_1 ..) ?_
          refine T_if1 (by omega) ?_
          refine T_of (fX12_in_J14.eq_1 ..) ?_
          refine T_of (fX12_in_J15.eq_1 ..) ?_
          refine T_if1 (by decide) ?_
          refine T_rI ?_
          refine T_if0 (by decide) ?_
          refine T_of (fX12_set_J41.eq_1 ..) ?_
          refine T_of (fX12_set_J46.eq_1 ..) ?_
          refine T_if1 (by decide +kernel) ?_
          refine T_bI ?_
          refine T_of (fX12_bad.eq_1 ..) ?_
          refine T_if0 (by decide) ?_
          refine T_if1 (by decide +kernel) ?_
          refine T_let 0 ((z_up_k (by decide)).trans (by decide +kernel)) ?_
          refine T_if0 (by decide) ?_
          refine T_if1 (by decide +kernel) ?_
          refine T_up ?_
          refine T_if1 (by decide +kernel) ?_
          refine T_let 310 (by decide +kernel) ?_
          refine T_if1 (by decide +kernel) ?_
          refine T_let 0 ((z_up_k (by decide)).trans ((z_up_k (by decide)).trans (by decide +kernel))) ?_
          refine T_let 1 (by decide +kernel) ?_
          refine T_if1 (by decide +kernel) ?_
          refine T_up ?_
          refine T_of (fX12_bad_J26.eq_1 ..) ?_
          refine T_if1 (by decide +kernel) ?_
          refine T_let 1 ((z_up_k (by decide)).trans z_up_s) ?_
          refine T_if0 (by decide) ?_
          refine T_of (fX12_bad_J38.eq_1 ..) ?_
          refine T_if1 (by decide) ?_
          refine T_rI ?_
          refine T_if0 (by decide) ?_
          refine T_rI ?_
          refine T_if1 (by decide +kernel) ?_
          refine T_bI ?_
          refine T_of (fX12_thrown.eq_1 ..) ?_
          refine T_if1 (by decide +kernel) ?_
          refine T_let 1 ((z_up_k (by decide)).trans z_up_s) ?_
          refine T_rI ?_
          refine T_if1 (by decide) ?_
          refine T_if1 (by decide) ?_
          refine T_of (fL_law_J451.eq_1 ..) ?_
          refine T_of (fL_law_J2073.eq_1 ..) ?_
          refine T_let 6 (by decide +kernel) ?_
          exact hr _
        · refine T_ite (fun h10 => ?_) (fun h10 => ?_)
          · refine T_rN ?_
            refine T_if1 (by decide +kernel) ?_
            refine T_let 2 (by decide +kernel) ?_
            refine T_if1 (by decide +kernel) ?_
            refine T_bI ?_
            refine T_of (fX7_get.eq_1 ..) ?_
            refine T_if0 (by decide) ?_
            refine T_if1 (by decide +kernel) ?_
            refine T_let 3 (by decide +kernel) ?_
            refine T_if1 (by decide +kernel) ?_
            refine T_let 9 (by decide +kernel) ?_
            refine T_if0 (by decide) ?_
            refine T_if1 (by decide +kernel) ?_
            refine T_let 3 (by decide +kernel) ?_
            refine T_if1 (by decide +kernel) ?_
            refine T_let 0 (by decide +kernel) ?_
            refine T_of (fX7_get_J23.eq_1 ..) ?_
            refine T_rI ?_
            refine T_if1 (by decide +kernel) ?_
            refine T_let 2 (by decide +kernel) ?_
            refine T_if1 (by decide +kernel) ?_
            refine T_bN ?_
            refine T_of (fX7_put.eq_1 ..) ?_
            refine T_if0 (by decide) ?_
            refine T_if1 (by decide +kernel) ?_
            refine T_let 3 (by decide +kernel) ?_
            refine T_if1 (by decide +kernel) ?_
            refine T_let 9 (by decide +kernel) ?_
            refine T_if0 (by decide) ?_
            refine T_if1 (by decide +kernel) ?_
            refine T_let 3 (by decide +kernel) ?_
            refine T_if1 (by decide +kernel) ?_
            refine T_up ?_
            refine T_of (fX7_put_J20.eq_1 ..) ?_
            refine T_rN ?_
            refine T_if1 (by decide +kernel) ?_
            refine T_up0 ((z_up_k (by decide)).trans (by decide +kernel)) ?_
            refine T_if0 (by decide) ?_
            refine T_if1 (by decide) ?_
            refine T_of (fX11_set_J79.eq_1 ..) ?_
            refine T_rcI ?_
            refine T_if1 (by decide +kernel) ?_
            refine T_up0 ((z_up_k (by decide)).trans (by decide +kernel)) ?_
            refine T_rI ?_
            refine T_let 1 (by decide +kernel) ?_
            refine T_if1 (by decide) ?_
            refine T_let 3 q1 ?_
            refine T_let 2 (by decide +kernel) ?_
            refine T_if1 (by decide) ?_
            refine T_let p2 q2 ?_
            refine T_if1 (by decide +kernel) ?_
            refine T_bI ?_
            refine T_of (fX12_set.eq_1 ..) ?_
            refine T_if1 (by decide +kernel) ?_
            refine T_up0 ((z_up_k (by decide)).trans (by decide +kernel)) ?_
            refine T_bI ?_
            refine T_of (fX12_more.eq_1 ..) ?_
            refine T_if0 (by decide) ?_
            refine T_of (fX12_more_J10.eq_1 ..) ?_
            refine T_rI ?_
            refine T_bI ?_
            refine T_of (fX12_less.eq_1 ..) ?_
            refine T_if0 (by decide) ?_
            refine T_of (fX12_less_J10.eq_1 ..) ?_
            refine T_rI ?_
            refine T_if0 (by decide) ?_
            refine T_if1 (by decide +kernel) ?_
            refine T_let 313 (by decide +kernel) ?_
            refine T_if1 (by decide +kernel) ?_
            refine T_let 0 ((z_up_k (by decide)).trans (by decide +kernel)) ?_
            refine T_if1 (by decide +kernel) ?_
            refine T_let 314 (by decide +kernel) ?_
            refine T_if1 (by decide +kernel) ?_
            refine T_let 1 ((z_up_k (by decide)).trans (by decide +kernel)) ?_
            refine T_bI ?_
            refine T_of (fX12_in.eq_1 ..) ?_
            refine T_if0 (by omega) ?_
            refine T_if0 (by omega) ?_
            refine T_of (fX12_in_J15.eq_1 ..) ?_
            refine T_if1 (by decide) ?_
            refine T_rI ?_
            refine T_if1 (by decide) ?_
            refine T_of (fX12_set_J46.eq_1 ..) ?_
            refine T_if1 (by decide +kernel) ?_
            refine T_bI ?_
            refine T_of (fX12_bad.eq_1 ..) ?_
            refine T_if1 (by decide) ?_
            refine T_of (fX12_bad_J26.eq_1 ..) ?_
            refine T_if1 (by decide +kernel) ?_
            refine T_let 0 ((z_up_k (by decide)).trans (by decide +kernel)) ?_
            refine T_if1 (by decide) ?_
            refine T_of (fX12_bad_J38.eq_1 ..) ?_
            refine T_if1 (by decide) ?_
            refine T_rI ?_
            refine T_if1 (by decide) ?_
            refine T_if1 (by decide +kernel) ?_
            refine T_let 312 (by decide +kernel) ?_
            refine T_if1 (by decide +kernel) ?_
            refine T_let 0 ((z_up_k (by decide)).trans (by decide +kernel)) ?_
            refine T_if1 (by decide +kernel) ?_
            refine T_let 312 (by decide +kernel) ?_
            refine T_if1 (by decide +kernel) ?_
            refine T_up ?_
            refine T_if1 (by decide +kernel) ?_
            refine T_up0 ((z_up_k (by decide)).trans ((z_up_k (by decide)).trans (by decide +kernel))) ?_
            refine T_rI ?_
            refine T_if1 (by decide +kernel) ?_
            refine T_bI ?_
            refine T_of (fX12_thrown.eq_1 ..) ?_
            refine T_if1 (by decide +kernel) ?_
            refine T_let 0 ((z_up_k (by decide)).trans ((z_up_k (by decide)).trans (by decide +kernel))) ?_
            refine T_rI ?_
            refine T_if1 (by decide) ?_
            refine T_if0 (by decide) ?_
            refine T_if1 (by decide +kernel) ?_
            refine T_let 0 ((z_up_k (by decide)).trans ((z_up_k (by decide)).trans (by decide +kernel))) ?_
            refine T_let 0 (by decide +kernel) ?_
            refine T_if1 (by decide) ?_
            refine T_of (fL_law_J451.eq_1 ..) ?_
            refine T_of (fL_law_J2073.eq_1 ..) ?_
            refine T_let 6 (by decide +kernel) ?_
            exact hr _
          · refine T_of (fX11_needWithin_J10.eq_1 ..) ?_
            refine T_if1 (by decide +kernel) ?_
            refine T_let 0 (by decide +kernel) ?_
            refine T_let 1 (by decide +kernel) ?_
            refine T_if1 (by decide +kernel) ?_
            refine T_up ?_
            refine T_xN ?_
            refine T_x1I ?_
            refine T_rI ?_
            refine T_let 1 (by decide +kernel) ?_
            refine T_if1 (by decide) ?_
            refine T_let 3 q1 ?_
            refine T_let 2 (by decide +kernel) ?_
            refine T_if1 (by decide) ?_
            refine T_let p2 q2 ?_
            refine T_if1 (by decide +kernel) ?_
            refine T_bI ?_
            refine T_of (fX12_set.eq_1 ..) ?_
            refine T_if1 (by decide +kernel) ?_
            refine T_up0 ((z_up_k (by decide)).trans (by decide +kernel)) ?_
            refine T_bI ?_
            refine T_of (fX12_more.eq_1 ..) ?_
            refine T_if0 (by decide) ?_
            refine T_of (fX12_more_J10.eq_1 ..) ?_
            refine T_rI ?_
            refine T_bI ?_
            refine T_of (fX12_less.eq_1 ..) ?_
            refine T_if0 (by decide) ?_
            refine T_of (fX12_less_J10.eq_1 ..) ?_
            refine T_rI ?_
            refine T_if0 (by decide) ?_
            refine T_if1 (by decide +kernel) ?_
            refine T_let 313 (by decide +kernel) ?_
            refine T_if1 (by decide +kernel) ?_
            refine T_let 0 ((z_up_k (by decide)).trans (by decide +kernel)) ?_
            refine T_if1 (by decide +kernel) ?_
            refine T_let 314 (by decide +kernel) ?_
            refine T_if1 (by decide +kernel) ?_
            refine T_let 1 ((z_up_k (by decide)).trans (by decide +kernel)) ?_
            refine T_bI ?_
            refine T_of (fX12_in.eq_1 ..) ?_
            refine T_if0 (by omega) ?_
            refine T_if1 (by omega) ?_
            refine T_of (fX12_in_J14.eq_1 ..) ?_
            refine T_of (fX12_in_J15.eq_1 ..) ?_
            refine T_if1 (by decide) ?_
            refine T_rI ?_
            refine T_if0 (by decide) ?_
            refine T_of (fX12_set_J41.eq_1 ..) ?_
            refine T_of (fX12_set_J46.eq_1 ..) ?_
            refine T_if1 (by decide +kernel) ?_
            refine T_bI ?_
            refine T_of (fX12_bad.eq_1 ..) ?_
            refine T_if0 (by decide) ?_
            refine T_if1 (by decide +kernel) ?_
            refine T_let 0 ((z_up_k (by decide)).trans (by decide +kernel)) ?_
            refine T_if0 (by decide) ?_
            refine T_if1 (by decide +kernel) ?_
            refine T_up ?_
            refine T_if1 (by decide +kernel) ?_
            refine T_let 310 (by decide +kernel) ?_
            refine T_if1 (by decide +kernel) ?_
            refine T_let 0 ((z_up_k (by decide)).trans ((z_up_k (by decide)).trans (by decide +kernel))) ?_
            refine T_let 1 (by decide +kernel) ?_
            refine T_if1 (by decide +kernel) ?_
            refine T_up ?_
            refine T_of (fX12_bad_J26.eq_1 ..) ?_
            refine T_if1 (by decide +kernel) ?_
            refine T_let 1 ((z_up_k (by decide)).trans z_up_s) ?_
            refine T_if0 (by decide) ?_
            refine T_of (fX12_bad_J38.eq_1 ..) ?_
            refine T_if1 (by decide) ?_
            refine T_rI ?_
            refine T_if0 (by decide) ?_
            refine T_rI ?_
            refine T_if1 (by decide +kernel) ?_
            refine T_bI ?_
            refine T_of (fX12_thrown.eq_1 ..) ?_
            refine T_if1 (by decide +kernel) ?_
            refine T_let 1 ((z_up_k (by decide)).trans z_up_s) ?_
            refine T_rI ?_
            refine T_if1 (by decide) ?_
            refine T_if1 (by decide) ?_
            refine T_of (fL_law_J451.eq_1 ..) ?_
            refine T_of (fL_law_J2073.eq_1 ..) ?_
            refine T_let 6 (by decide +kernel) ?_
            exact hr _
      · refine T_if1 (by decide +kernel) ?_
        refine T_let 0 (by decide +kernel) ?_
        refine T_of (fX11_pick_J17.eq_1 ..) ?_
        refine T_rI ?_
        refine T_bI ?_
        refine T_of (fX11_pick.eq_1 ..) ?_
        refine T_if0 (by decide) ?_
        refine T_if1 (by decide +kernel) ?_
        refine T_if0 (by decide) ?_
        refine T_if1 (by decide +kernel) ?_
        refine T_let 1 (by decide +kernel) ?_
        refine T_of (fX11_pick_J17.eq_1 ..) ?_
        refine T_rI ?_
        refine T_if1 (by decide +kernel) ?_
        refine T_bN ?_
        refine T_of (fX11_needWithin.eq_1 ..) ?_
        refine T_ite (fun h11 => ?_) (fun h11 => ?_)
        · refine T_of (fX11_needWithin_J10.eq_1 ..) ?_
          refine T_if1 (by decide +kernel) ?_
          refine T_let 0 (by decide +kernel) ?_
          refine T_let 1 (by decide +kernel) ?_
          refine T_if1 (by decide +kernel) ?_
          refine T_up ?_
          refine T_xN ?_
          refine T_x1I ?_
          refine T_rI ?_
          refine T_let 1 (by decide +kernel) ?_
          refine T_if1 (by decide) ?_
          refine T_let 4 q1 ?_
          refine T_let 2 (by decide +kernel) ?_
          refine T_if1 (by decide) ?_
          refine T_let p2 q2 ?_
          refine T_if1 (by decide +kernel) ?_
          refine T_bI ?_
          refine T_of (fX12_set.eq_1 ..) ?_
          refine T_if1 (by decide +kernel) ?_
          refine T_up0 ((z_up_k (by decide)).trans (by decide +kernel)) ?_
          refine T_bI ?_
          refine T_of (fX12_more.eq_1 ..) ?_
          refine T_if0 (by decide) ?_
          refine T_of (fX12_more_J10.eq_1 ..) ?_
          refine T_rI ?_
          refine T_bI ?_
          refine T_of (fX12_less.eq_1 ..) ?_
          refine T_if0 (by decide) ?_
          refine T_of (fX12_less_J10.eq_1 ..) ?_
          refine T_rI ?_
          refine T_if0 (by decide) ?_
          refine T_if1 (by decide +kernel) ?_
          refine T_let 313 (by decide +kernel) ?_
          refine T_if1 (by decide +kernel) ?_
          refine T_let 0 ((z_up_k (by decide)).trans (by decide +kernel)) ?_
          refine T_if1 (by decide +kernel) ?_
          refine T_let 314 (by decide +kernel) ?_
          refine T_if1 (by decide +kernel) ?_
          refine T_let 1 ((z_up_k (by decide)).trans (by decide +kernel)) ?_
          refine T_bI ?_
          refine T_of (fX12_in.eq_1 ..) ?_
          refine T_if1 (by omega) ?_
          refine T_of (fX12_in_J14.eq_1 ..) ?_
          refine T_of (fX12_in_J15.eq_1 ..) ?_
          refine T_if1 (by decide) ?_
          refine T_rI ?_
          refine T_if0 (by decide) ?_
          refine T_of (fX12_set_J41.eq_1 ..) ?_
          refine T_of (fX12_set_J46.eq_1 ..) ?_
          refine T_if1 (by decide +kernel) ?_
          refine T_bI ?_
          refine T_of (fX12_bad.eq_1 ..) ?_
          refine T_if0 (by decide) ?_
          refine T_if1 (by decide +kernel) ?_
          refine T_let 0 ((z_up_k (by decide)).trans (by decide +kernel)) ?_
          refine T_if0 (by decide) ?_
          refine T_if1 (by decide +kernel) ?_
          refine T_up ?_
          refine T_if1 (by decide +kernel) ?_
          refine T_let 310 (by decide +kernel) ?_
          refine T_if1 (by decide +kernel) ?_
          refine T_let 0 ((z_up_k (by decide)).trans ((z_up_k (by decide)).trans (by decide +kernel))) ?_
          refine T_let 1 (by decide +kernel) ?_
          refine T_if1 (by decide +kernel) ?_
          refine T_up ?_
          refine T_of (fX12_bad_J26.eq_1 ..) ?_
          refine T_if1 (by decide +kernel) ?_
          refine T_let 1 ((z_up_k (by decide)).trans z_up_s) ?_
          refine T_if0 (by decide) ?_
          refine T_of (fX12_bad_J38.eq_1 ..) ?_
          refine T_if1 (by decide) ?_
          refine T_rI ?_
          refine T_if0 (by decide) ?_
          refine T_rI ?_
          refine T_if1 (by decide +kernel) ?_
          refine T_bI ?_
          refine T_of (fX12_thrown.eq_1 ..) ?_
          refine T_if1 (by decide +kernel) ?_
          refine T_let 1 ((z_up_k (by decide)).trans z_up_s) ?_
          refine T_rI ?_
          refine T_if1 (by decide) ?_
          refine T_if1 (by decide) ?_
          refine T_of (fL_law_J451.eq_1 ..) ?_
          refine T_of (fL_law_J2073.eq_1 ..) ?_
          refine T_let 6 (by decide +kernel) ?_
          exact hr _
        · refine T_ite (fun h12 => ?_) (fun h12 => ?_)
          · refine T_rN ?_
            refine T_if1 (by decide +kernel) ?_
            refine T_let 2 (by decide +kernel) ?_
            refine T_if1 (by decide +kernel) ?_
            refine T_bI ?_
            refine T_of (fX7_get.eq_1 ..) ?_
            refine T_if0 (by decide) ?_
            refine T_if1 (by decide +kernel) ?_
            refine T_let 3 (by decide +kernel) ?_
            refine T_if1 (by decide +kernel) ?_
            refine T_let 9 (by decide +kernel) ?_
            refine T_if0 (by decide) ?_
            refine T_if1 (by decide +kernel) ?_
            refine T_let 3 (by decide +kernel) ?_
            refine T_if1 (by decide +kernel) ?_
            refine T_let 0 (by decide +kernel) ?_
            refine T_of (fX7_get_J23.eq_1 ..) ?_
            refine T_rI ?_
            refine T_if1 (by decide +kernel) ?_
            refine T_let 2 (by decide +kernel) ?_
            refine T_if1 (by decide +kernel) ?_
            refine T_bN ?_
            refine T_of (fX7_put.eq_1 ..) ?_
            refine T_if0 (by decide) ?_
            refine T_if1 (by decide +kernel) ?_
            refine T_let 3 (by decide +kernel) ?_
            refine T_if1 (by decide +kernel) ?_
            refine T_let 9 (by decide +kernel) ?_
            refine T_if0 (by decide) ?_
            refine T_if1 (by decide +kernel) ?_
            refine T_let 3 (by decide +kernel) ?_
            refine T_if1 (by decide +kernel) ?_
            refine T_up ?_
            refine T_of (fX7_put_J20.eq_1 ..) ?_
            refine T_rN ?_
            refine T_if1 (by decide +kernel) ?_
            refine T_up0 ((z_up_k (by decide)).trans (by decide +kernel)) ?_
            refine T_if0 (by decide) ?_
            refine T_if0 (by decide) ?_
            refine T_if1 (by decide) ?_
            refine T_of (fX11_set_J79.eq_1 ..) ?_
            refine T_rcI ?_
            refine T_if1 (by decide +kernel) ?_
            refine T_up0 ((z_up_k (by decide)).trans (by decide +kernel)) ?_
            refine T_rI ?_
            refine T_let 1 (by decide +kernel) ?_
            refine T_if1 (by decide) ?_
            refine T_let 4 q1 ?_
            refine T_let 2 (by decide +kernel) ?_
            refine T_if1 (by decide) ?_
            refine T_let p2 q2 ?_
            refine T_if1 (by decide +kernel) ?_
            refine T_bI ?_
            refine T_of (fX12_set.eq_1 ..) ?_
            refine T_if1 (by decide +kernel) ?_
            refine T_up0 ((z_up_k (by decide)).trans (by decide +kernel)) ?_
            refine T_bI ?_
            refine T_of (fX12_more.eq_1 ..) ?_
            refine T_if0 (by decide) ?_
            refine T_of (fX12_more_J10.eq_1 ..) ?_
            refine T_rI ?_
            refine T_bI ?_
            refine T_of (fX12_less.eq_1 ..) ?_
            refine T_if0 (by decide) ?_
            refine T_of (fX12_less_J10.eq_1 ..) ?_
            refine T_rI ?_
            refine T_if0 (by decide) ?_
            refine T_if1 (by decide +kernel) ?_
            refine T_let 313 (by decide +kernel) ?_
            refine T_if1 (by decide +kernel) ?_
            refine T_let 0 ((z_up_k (by decide)).trans (by decide +kernel)) ?_
            refine T_if1 (by decide +kernel) ?_
            refine T_let 314 (by decide +kernel) ?_
            refine T_if1 (by decide +kernel) ?_
            refine T_let 1 ((z_up_k (by decide)).trans (by decide +kernel)) ?_
            refine T_bI ?_
            refine T_of (fX12_in.eq_1 ..) ?_
            refine T_if0 (by omega) ?_
            refine T_if0 (by omega) ?_
            refine T_of (fX12_in_J15.eq_1 ..) ?_
            refine T_if1 (by decide) ?_
            refine T_rI ?_
            refine T_if1 (by decide) ?_
            refine T_of (fX12_set_J46.eq_1 ..) ?_
            refine T_if1 (by decide +kernel) ?_
            refine T_bI ?_
            refine T_of (fX12_bad.eq_1 ..) ?_
            refine T_if1 (by decide) ?_
            refine T_of (fX12_bad_J26.eq_1 ..) ?_
            refine T_if1 (by decide +kernel) ?_
            refine T_let 0 ((z_up_k (by decide)).trans (by decide +kernel)) ?_
            refine T_if1 (by decide) ?_
            refine T_of (fX12_bad_J38.eq_1 ..) ?_
            refine T_if1 (by decide) ?_
            refine T_rI ?_
            refine T_if1 (by decide) ?_
            refine T_if1 (by decide +kernel) ?_
            refine T_let 312 (by decide +kernel) ?_
            refine T_if1 (by decide +kernel) ?_
            refine T_let 0 ((z_up_k (by decide)).trans (by decide +kernel)) ?_
            refine T_if1 (by decide +kernel) ?_
            refine T_let 312 (by decide +kernel) ?_
            refine T_if1 (by decide +kernel) ?_
            refine T_up ?_
            refine T_if1 (by decide +kernel) ?_
            refine T_up0 ((z_up_k (by decide)).trans ((z_up_k (by decide)).trans (by decide +kernel))) ?_
            refine T_rI ?_
            refine T_if1 (by decide +kernel) ?_
            refine T_bI ?_
            refine T_of (fX12_thrown.eq_1 ..) ?_
            refine T_if1 (by decide +kernel) ?_
            refine T_let 0 ((z_up_k (by decide)).trans ((z_up_k (by decide)).trans (by decide +kernel))) ?_
            refine T_rI ?_
            refine T_if1 (by decide) ?_
            refine T_if0 (by decide) ?_
            refine T_if1 (by decide +kernel) ?_
            refine T_let 0 ((z_up_k (by decide)).trans ((z_up_k (by decide)).trans (by decide +kernel))) ?_
            refine T_let 0 (by decide +kernel) ?_
            refine T_if1 (by decide) ?_
            refine T_of (fL_law_J451.eq_1 ..) ?_
            refine T_of (fL_law_J2073.eq_1 ..) ?_
            refine T_let 6 (by decide +kernel) ?_
            exact hr _
          · refine T_of (fX11_needWithin_J10.eq_1 ..) ?_
            refine T_if1 (by decide +kernel) ?_
            refine T_let 0 (by decide +kernel) ?_
            refine T_let 1 (by decide +kernel) ?_
            refine T_if1 (by decide +kernel) ?_
            refine T_up ?_
            refine T_xN ?_
            refine T_x1I ?_
            refine T_rI ?_
            refine T_let 1 (by decide +kernel) ?_
            refine T_if1 (by decide) ?_
            refine T_let 4 q1 ?_
            refine T_let 2 (by decide +kernel) ?_
            refine T_if1 (by decide) ?_
            refine T_let p2 q2 ?_
            refine T_if1 (by decide +kernel) ?_
            refine T_bI ?_
            refine T_of (fX12_set.eq_1 ..) ?_
            refine T_if1 (by decide +kernel) ?_
            refine T_up0 ((z_up_k (by decide)).trans (by decide +kernel)) ?_
            refine T_bI ?_
            refine T_of (fX12_more.eq_1 ..) ?_
            refine T_if0 (by decide) ?_
            refine T_of (fX12_more_J10.eq_1 ..) ?_
            refine T_rI ?_
            refine T_bI ?_
            refine T_of (fX12_less.eq_1 ..) ?_
            refine T_if0 (by decide) ?_
            refine T_of (fX12_less_J10.eq_1 ..) ?_
            refine T_rI ?_
            refine T_if0 (by decide) ?_
            refine T_if1 (by decide +kernel) ?_
            refine T_let 313 (by decide +kernel) ?_
            refine T_if1 (by decide +kernel) ?_
            refine T_let 0 ((z_up_k (by decide)).trans (by decide +kernel)) ?_
            refine T_if1 (by decide +kernel) ?_
            refine T_let 314 (by decide +kernel) ?_
            refine T_if1 (by decide +kernel) ?_
            refine T_let 1 ((z_up_k (by decide)).trans (by decide +kernel)) ?_
            refine T_bI ?_
            refine T_of (fX12_in.eq_1 ..) ?_
            refine T_if0 (by omega) ?_
            refine T_if1 (by omega) ?_
            refine T_of (fX12_in_J14.eq_1 ..) ?_
            refine T_of (fX12_in_J15.eq_1 ..) ?_
            refine T_if1 (by decide) ?_
            refine T_rI ?_
            refine T_if0 (by decide) ?_
            refine T_of (fX12_set_J41.eq_1 ..) ?_
            refine T_of (fX12_set_J46.eq_1 ..) ?_
            refine T_if1 (by decide +kernel) ?_
            refine T_bI ?_
            refine T_of (fX12_bad.eq_1 ..) ?_
            refine T_if0 (by decide) ?_
            refine T_if1 (by decide +kernel) ?_
            refine T_let 0 ((z_up_k (by decide)).trans (by decide +kernel)) ?_
            refine T_if0 (by decide) ?_
            refine T_if1 (by decide +kernel) ?_
            refine T_up ?_
            refine T_if1 (by decide +kernel) ?_
            refine T_let 310 (by decide +kernel) ?_
            refine T_if1 (by decide +kernel) ?_
            refine T_let 0 ((z_up_k (by decide)).trans ((z_up_k (by decide)).trans (by decide +kernel))) ?_
            refine T_let 1 (by decide +kernel) ?_
            refine T_if1 (by decide +kernel) ?_
            refine T_up ?_
            refine T_of (fX12_bad_J26.eq_1 ..) ?_
            refine T_if1 (by decide +kernel) ?_
            refine T_let 1 ((z_up_k (by decide)).trans z_up_s) ?_
            refine T_if0 (by decide) ?_
            refine T_of (fX12_bad_J38.eq_1 ..) ?_
            refine T_if1 (by decide) ?_
            refine T_rI ?_
            refine T_if0 (by decide) ?_
            refine T_rI ?_
            refine T_if1 (by decide +kernel) ?_
            refine T_bI ?_
            refine T_of (fX12_thrown.eq_1 ..) ?_
            refine T_if1 (by decide +kernel) ?_
            refine T_let 1 ((z_up_k (by decide)).trans z_up_s) ?_
            refine T_rI ?_
            refine T_if1 (by decide) ?_
            refine T_if1 (by decide) ?_
            refine T_of (fL_law_J451.eq_1 ..) ?_
            refine T_of (fL_law_J2073.eq_1 ..) ?_
            refine T_let 6 (by decide +kernel) ?_
            exact hr _
      · refine T_if1 (by decide +kernel) ?_
        refine T_let 0 (by decide +kernel) ?_
        refine T_of (fX11_pick_J17.eq_1 ..) ?_
        refine T_rI ?_
        refine T_bI ?_
        refine T_of (fX11_pick.eq_1 ..) ?_
        refine T_if0 (by decide) ?_
        refine T_if1 (by decide +kernel) ?_
        refine T_if0 (by decide) ?_
        refine T_if1 (by decide +kernel) ?_
        refine T_let 1 (by decide +kernel) ?_
        refine T_of (fX11_pick_J17.eq_1 ..) ?_
        refine T_rI ?_
        refine T_if1 (by decide +kernel) ?_
        refine T_bN ?_
        refine T_of (fX11_needWithin.eq_1 ..) ?_
        refine T_ite (fun h13 => ?_) (fun h13 => ?_)
        · refine T_of (fX11_needWithin_J10.eq_1 ..) ?_
          refine T_if1 (by decide +kernel) ?_
          refine T_let 0 (by decide +kernel) ?_
          refine T_let 1 (by decide +kernel) ?_
          refine T_if1 (by decide +kernel) ?_
          refine T_up ?_
          refine T_xN ?_
          refine T_x1I ?_
          refine T_rI ?_
          refine T_let 1 (by decide +kernel) ?_
          refine T_if1 (by decide) ?_
          refine T_let 5 q1 ?_
          refine T_let 2 (by decide +kernel) ?_
          refine T_if1 (by decide) ?_
          refine T_let p2 q2 ?_
          refine T_if1 (by decide +kernel) ?_
          refine T_bI ?_
          refine T_of (fX12_set.eq_1 ..) ?_
          refine T_if1 (by decide +kernel) ?_
          refine T_up0 ((z_up_k (by decide)).trans (by decide +kernel)) ?_
          refine T_bI ?_
          refine T_of (fX12_more.eq_1 ..) ?_
          refine T_if0 (by decide) ?_
          refine T_of (fX12_more_J10.eq_1 ..) ?_
          refine T_rI ?_
          refine T_bI ?_
          refine T_of (fX12_less.eq_1 ..) ?_
          refine T_if0 (by decide) ?_
          refine T_of (fX12_less_J10.eq_1 ..) ?_
          refine T_rI ?_
          refine T_if0 (by decide) ?_
          refine T_if1 (by decide +kernel) ?_
          refine T_let 313 (by decide +kernel) ?_
          refine T_if1 (by decide +kernel) ?_
          refine T_let 0 ((z_up_k (by decide)).trans (by decide +kernel)) ?_
          refine T_if1 (by decide +kernel) ?_
          refine T_let 314 (by decide +kernel) ?_
          refine T_if1 (by decide +kernel) ?_
          refine T_let 1 ((z_up_k (by decide)).trans (by decide +kernel)) ?_
          refine T_bI ?_
          refine T_of (fX12_in.eq_1 ..) ?_
          refine T_if1 (by omega) ?_
          refine T_of (fX12_in_J14.eq_1 ..) ?_
          refine T_of (fX12_in_J15.eq_1 ..) ?_
          refine T_if1 (by decide) ?_
          refine T_rI ?_
          refine T_if0 (by decide) ?_
          refine T_of (fX12_set_J41.eq_1 ..) ?_
          refine T_of (fX12_set_J46.eq_1 ..) ?_
          refine T_if1 (by decide +kernel) ?_
          refine T_bI ?_
          refine T_of (fX12_bad.eq_1 ..) ?_
          refine T_if0 (by decide) ?_
          refine T_if1 (by decide +kernel) ?_
          refine T_let 0 ((z_up_k (by decide)).trans (by decide +kernel)) ?_
          refine T_if0 (by decide) ?_
          refine T_if1 (by decide +kernel) ?_
          refine T_up ?_
          refine T_if1 (by decide +kernel) ?_
          refine T_let 310 (by decide +kernel) ?_
          refine T_if1 (by decide +kernel) ?_
          refine T_let 0 ((z_up_k (by decide)).trans ((z_up_k (by decide)).trans (by decide +kernel))) ?_
          refine T_let 1 (by decide +kernel) ?_
          refine T_if1 (by decide +kernel) ?_
          refine T_up ?_
          refine T_of (fX12_bad_J26.eq_1 ..) ?_
          refine T_if1 (by decide +kernel) ?_
          refine T_let 1 ((z_up_k (by decide)).trans z_up_s) ?_
          refine T_if0 (by decide) ?_
          refine T_of (fX12_bad_J38.eq_1 ..) ?_
          refine T_if1 (by decide) ?_
          refine T_rI ?_
          refine T_if0 (by decide) ?_
          refine T_rI ?_
          refine T_if1 (by decide +kernel) ?_
          refine T_bI ?_
          refine T_of (fX12_thrown.eq_1 ..) ?_
          refine T_if1 (by decide +kernel) ?_
          refine T_let 1 ((z_up_k (by decide)).trans z_up_s) ?_
          refine T_rI ?_
          refine T_if1 (by decide) ?_
          refine T_if1 (by decide) ?_
          refine T_of (fL_law_J451.eq_1 ..) ?_
          refine T_of (fL_law_J2073.eq_1 ..) ?_
          refine T_let 6 (by decide +kernel) ?_
          exact hr _
        · refine T_ite (fun h14 => ?_) (fun h14 => ?_)
          · refine T_rN ?_
            refine T_if1 (by decide +kernel) ?_
            refine T_let 2 (by decide +kernel) ?_
            refine T_if1 (by decide +kernel) ?_
            refine T_bI ?_
            refine T_of (fX7_get.eq_1 ..) ?_
            refine T_if0 (by decide) ?_
            refine T_if1 (by decide +kernel) ?_
            refine T_let 3 (by decide +kernel) ?_
            refine T_if1 (by decide +kernel) ?_
            refine T_let 9 (by decide +kernel) ?_
            refine T_if0 (by decide) ?_
            refine T_if1 (by decide +kernel) ?_
            refine T_let 3 (by decide +kernel) ?_
            refine T_if1 (by decide +kernel) ?_
            refine T_let 1 (by decide +kernel) ?_
            refine T_of (fX7_get_J23.eq_1 ..) ?_
            refine T_rI ?_
            refine T_if1 (by decide +kernel) ?_
            refine T_let 2 (by decide +kernel) ?_
            refine T_if1 (by decide +kernel) ?_
            refine T_bN ?_
            refine T_of (fX7_put.eq_1 ..) ?_
            refine T_if0 (by decide) ?_
            refine T_if1 (by decide +kernel) ?_
            refine T_let 3 (by decide +kernel) ?_
            refine T_if1 (by decide +kernel) ?_
            refine T_let 9 (by decide +kernel) ?_
            refine T_if0 (by decide) ?_
            refine T_if1 (by decide +kernel) ?_
            refine T_let 3 (by decide +kernel) ?_
            refine T_if1 (by decide +kernel) ?_
            refine T_up ?_
            refine T_of (fX7_put_J20.eq_1 ..) ?_
            refine T_rN ?_
            refine T_if1 (by decide +kernel) ?_
            refine T_up0 ((z_up_k (by decide)).trans (by decide +kernel)) ?_
            refine T_if0 (by decide) ?_
            refine T_if0 (by decide) ?_
            refine T_if0 (by decide) ?_
            refine T_if0 (by decide) ?_
            refine T_if1 (by decide +kernel) ?_
            refine T_up0 ((z_up_k (by decide)).trans (by decide +kernel)) ?_
            refine T_of (fX11_set_J79.eq_1 ..) ?_
            refine T_rcI ?_
            refine T_if1 (by decide +kernel) ?_
            refine T_up ?_
            refine T_rI ?_
            refine T_let 1 (by decide +kernel) ?_
            refine T_if1 (by decide) ?_
            refine T_let 5 q1 ?_
            refine T_let 2 (by decide +kernel) ?_
            refine T_if1 (by decide) ?_
            refine T_let p2 q2 ?_
            refine T_if1 (by decide +kernel) ?_
            refine T_bI ?_
            refine T_of (fX12_set.eq_1 ..) ?_
            refine T_if1 (by decide +kernel) ?_
            refine T_up0 ((z_up_k (by decide)).trans ((z_up_k (by decide)).trans (by decide +kernel))) ?_
            refine T_bI ?_
            refine T_of (fX12_more.eq_1 ..) ?_
            refine T_if0 (by decide) ?_
            refine T_of (fX12_more_J10.eq_1 ..) ?_
            refine T_rI ?_
            refine T_bI ?_
            refine T_of (fX12_less.eq_1 ..) ?_
            refine T_if0 (by decide) ?_
            refine T_of (fX12_less_J10.eq_1 ..) ?_
            refine T_rI ?_
            refine T_if0 (by decide) ?_
            refine T_if1 (by decide +kernel) ?_
            refine T_let 313 (by decide +kernel) ?_
            refine T_if1 (by decide +kernel) ?_
            refine T_let 0 ((z_up_k (by decide)).trans ((z_up_k (by decide)).trans (by decide +kernel))) ?_
            refine T_if1 (by decide +kernel) ?_
            refine T_let 314 (by decide +kernel) ?_
            refine T_if1 (by decide +kernel) ?_
            refine T_let 1 ((z_up_k (by decide)).trans ((z_up_k (by decide)).trans (by decide +kernel))) ?_
            refine T_bI ?_
            refine T_of (fX12_in.eq_1 ..) ?_
            refine T_if0 (by omega) ?_
            refine T_if0 (by omega) ?_
            refine T_of (fX12_in_J15.eq_1 ..) ?_
            refine T_if1 (by decide) ?_
            refine T_rI ?_
            refine T_if1 (by decide) ?_
            refine T_of (fX12_set_J46.eq_1 ..) ?_
            refine T_if1 (by decide +kernel) ?_
            refine T_bI ?_
            refine T_of (fX12_bad.eq_1 ..) ?_
            refine T_if1 (by decide) ?_
            refine T_of (fX12_bad_J26.eq_1 ..) ?_
            refine T_if1 (by decide +kernel) ?_
            refine T_let 0 ((z_up_k (by decide)).trans ((z_up_k (by decide)).trans (by decide +kernel))) ?_
            refine T_if1 (by decide) ?_
            refine T_of (fX12_bad_J38.eq_1 ..) ?_
            refine T_if1 (by decide) ?_
            refine T_rI ?_
            refine T_if1 (by decide) ?_
            refine T_if1 (by decide +kernel) ?_
            refine T_let 312 (by decide +kernel) ?_
            refine T_if1 (by decide +kernel) ?_
            refine T_let 1 ((z_up_k (by decide)).trans ((z_up_k (by decide)).trans (by decide +kernel))) ?_
            refine T_if1 (by decide +kernel) ?_
            refine T_let 312 (by decide +kernel) ?_
            refine T_if1 (by decide +kernel) ?_
            refine T_up ?_
            refine T_if1 (by decide +kernel) ?_
            refine T_up0 ((z_up_k (by decide)).trans ((z_up_k (by decide)).trans ((z_up_k (by decide)).trans (by decide +kernel)))) ?_
            refine T_rI ?_
            refine T_if1 (by decide +kernel) ?_
            refine T_bI ?_
            refine T_of (fX12_thrown.eq_1 ..) ?_
            refine T_if1 (by decide +kernel) ?_
            refine T_let 0 ((z_up_k (by decide)).trans ((z_up_k (by decide)).trans ((z_up_k (by decide)).trans (by decide +kernel)))) ?_
            refine T_rI ?_
            refine T_if1 (by decide) ?_
            refine T_if0 (by decide) ?_
            refine T_if1 (by decide +kernel) ?_
            refine T_let 1 ((z_up_k (by decide)).trans z_up_s) ?_
            refine T_let 0 (by decide +kernel) ?_
            refine T_if1 (by decide) ?_
            refine T_of (fL_law_J451.eq_1 ..) ?_
            refine T_of (fL_law_J2073.eq_1 ..) ?_
            refine T_let 6 (by decide +kernel) ?_
            exact hr _
          · refine T_of (fX11_needWithin_J10.eq_1 ..) ?_
            refine T_if1 (by decide +kernel) ?_
            refine T_let 0 (by decide +kernel) ?_
            refine T_let 1 (by decide +kernel) ?_
            refine T_if1 (by decide +kernel) ?_
            refine T_up ?_
            refine T_xN ?_
            refine T_x1I ?_
            refine T_rI ?_
            refine T_let 1 (by decide +kernel) ?_
            refine T_if1 (by decide) ?_
            refine T_let 5 q1 ?_
            refine T_let 2 (by decide +kernel) ?_
            refine T_if1 (by decide) ?_
            refine T_let p2 q2 ?_
            refine T_if1 (by decide +kernel) ?_
            refine T_bI ?_
            refine T_of (fX12_set.eq_1 ..) ?_
            refine T_if1 (by decide +kernel) ?_
            refine T_up0 ((z_up_k (by decide)).trans (by decide +kernel)) ?_
            refine T_bI ?_
            refine T_of (fX12_more.eq_1 ..) ?_
            refine T_if0 (by decide) ?_
            refine T_of (fX12_more_J10.eq_1 ..) ?_
            refine T_rI ?_
            refine T_bI ?_
            refine T_of (fX12_less.eq_1 ..) ?_
            refine T_if0 (by decide) ?_
            refine T_of (fX12_less_J10.eq_1 ..) ?_
            refine T_rI ?_
            refine T_if0 (by decide) ?_
            refine T_if1 (by decide +kernel) ?_
            refine T_let 313 (by decide +kernel) ?_
            refine T_if1 (by decide +kernel) ?_
            refine T_let 0 ((z_up_k (by decide)).trans (by decide +kernel)) ?_
            refine T_if1 (by decide +kernel) ?_
            refine T_let 314 (by decide +kernel) ?_
            refine T_if1 (by decide +kernel) ?_
            refine T_let 1 ((z_up_k (by decide)).trans (by decide +kernel)) ?_
            refine T_bI ?_
            refine T_of (fX12_in.eq_1 ..) ?_
            refine T_if0 (by omega) ?_
            refine T_if1 (by omega) ?_
            refine T_of (fX12_in_J14.eq_1 ..) ?_
            refine T_of (fX12_in_J15.eq_1 ..) ?_
            refine T_if1 (by decide) ?_
            refine T_rI ?_
            refine T_if0 (by decide) ?_
            refine T_of (fX12_set_J41.eq_1 ..) ?_
            refine T_of (fX12_set_J46.eq_1 ..) ?_
            refine T_if1 (by decide +kernel) ?_
            refine T_bI ?_
            refine T_of (fX12_bad.eq_1 ..) ?_
            refine T_if0 (by decide) ?_
            refine T_if1 (by decide +kernel) ?_
            refine T_let 0 ((z_up_k (by decide)).trans (by decide +kernel)) ?_
            refine T_if0 (by decide) ?_
            refine T_if1 (by decide +kernel) ?_
            refine T_up ?_
            refine T_if1 (by decide +kernel) ?_
            refine T_let 310 (by decide +kernel) ?_
            refine T_if1 (by decide +kernel) ?_
            refine T_let 0 ((z_up_k (by decide)).trans ((z_up_k (by decide)).trans (by decide +kernel))) ?_
            refine T_let 1 (by decide +kernel) ?_
            refine T_if1 (by decide +kernel) ?_
            refine T_up ?_
            refine T_of (fX12_bad_J26.eq_1 ..) ?_
            refine T_if1 (by decide +kernel) ?_
            refine T_let 1 ((z_up_k (by decide)).trans z_up_s) ?_
            refine T_if0 (by decide) ?_
            refine T_of (fX12_bad_J38.eq_1 ..) ?_
            refine T_if1 (by decide) ?_
            refine T_rI ?_
            refine T_if0 (by decide) ?_
            refine T_rI ?_
            refine T_if1 (by decide +kernel) ?_
            refine T_bI ?_
            refine T_of (fX12_thrown.eq_1 ..) ?_
            refine T_if1 (by decide +kernel) ?_
            refine T_let 1 ((z_up_k (by decide)).trans z_up_s) ?_
            refine T_rI ?_
            refine T_if1 (by decide) ?_
            refine T_if1 (by decide) ?_
            refine T_of (fL_law_J451.eq_1 ..) ?_
            refine T_of (fL_law_J2073.eq_1 ..) ?_
            refine T_let 6 (by decide +kernel) ?_
            exact hr _
      · refine T_if1 (by decide +kernel) ?_
        refine T_let 0 (by decide +kernel) ?_
        refine T_of (fX11_pick_J17.eq_1 ..) ?_
        refine T_rI ?_
        refine T_bI ?_
        refine T_of (fX11_pick.eq_1 ..) ?_
        refine T_if0 (by decide) ?_
        refine T_if1 (by decide +kernel) ?_
        refine T_if0 (by decide) ?_
        refine T_if1 (by decide +kernel) ?_
        refine T_let 1 (by decide +kernel) ?_
        refine T_of (fX11_pick_J17.eq_1 ..) ?_
        refine T_rI ?_
        refine T_if1 (by decide +kernel) ?_
        refine T_bN ?_
        refine T_of (fX11_needWithin.eq_1 ..) ?_
        refine T_ite (fun h15 => ?_) (fun h15 => ?_)
        · refine T_of (fX11_needWithin_J10.eq_1 ..) ?_
          refine T_if1 (by decide +kernel) ?_
          refine T_let 0 (by decide +kernel) ?_
          refine T_let 1 (by decide +kernel) ?_
          refine T_if1 (by decide +kernel) ?_
          refine T_up ?_
          refine T_xN ?_
          refine T_x1I ?_
          refine T_rI ?_
          refine T_let 1 (by decide +kernel) ?_
          refine T_if1 (by decide) ?_
          refine T_let 6 q1 ?_
          refine T_let 2 (by decide +kernel) ?_
          refine T_if1 (by decide) ?_
          refine T_let p2 q2 ?_
          refine T_if1 (by decide +kernel) ?_
          refine T_bI ?_
          refine T_of (fX12_set.eq_1 ..) ?_
          refine T_if1 (by decide +kernel) ?_
          refine T_up0 ((z_up_k (by decide)).trans (by decide +kernel)) ?_
          refine T_bI ?_
          refine T_of (fX12_more.eq_1 ..) ?_
          refine T_if0 (by decide) ?_
          refine T_of (fX12_more_J10.eq_1 ..) ?_
          refine T_rI ?_
          refine T_bI ?_
          refine T_of (fX12_less.eq_1 ..) ?_
          refine T_if0 (by decide) ?_
          refine T_of (fX12_less_J10.eq_1 ..) ?_
          refine T_rI ?_
          refine T_if0 (by decide) ?_
          refine T_if1 (by decide +kernel) ?_
          refine T_let 313 (by decide +kernel) ?_
          refine T_if1 (by decide +kernel) ?_
          refine T_let 0 ((z_up_k (by decide)).trans (by decide +kernel)) ?_
          refine T_if1 (by decide +kernel) ?_
          refine T_let 314 (by decide +kernel) ?_
          refine T_if1 (by decide +kernel) ?_
          refine T_let 1 ((z_up_k (by decide)).trans (by decide +kernel)) ?_
          refine T_bI ?_
          refine T_of (fX12_in.eq_1 ..) ?_
          refine T_if1 (by omega) ?_
          refine T_of (fX12_in_J14.eq_1 ..) ?_
          refine T_of (fX12_in_J15.eq_1 ..) ?_
          refine T_if1 (by decide) ?_
          refine T_rI ?_
          refine T_if0 (by decide) ?_
          refine T_of (fX12_set_J41.eq_1 ..) ?_
          refine T_of (fX12_set_J46.eq_1 ..) ?_
          refine T_if1 (by decide +kernel) ?_
          refine T_bI ?_
          refine T_of (fX12_bad.eq_1 ..) ?_
          refine T_if0 (by decide) ?_
          refine T_if1 (by decide +kernel) ?_
          refine T_let 0 ((z_up_k (by decide)).trans (by decide +kernel)) ?_
          refine T_if0 (by decide) ?_
          refine T_if1 (by decide +kernel) ?_
          refine T_up ?_
          refine T_if1 (by decide +kernel) ?_
          refine T_let 310 (by decide +kernel) ?_
          refine T_if1 (by decide +kernel) ?_
          refine T_let 0 ((z_up_k (by decide)).trans ((z_up_k (by decide)).trans (by decide +kernel))) ?_
          refine T_let 1 (by decide +kernel) ?_
          refine T_if1 (by decide +kernel) ?_
          refine T_up ?_
          refine T_of (fX12_bad_J26.eq_1 ..) ?_
          refine T_if1 (by decide +kernel) ?_
          refine T_let 1 ((z_up_k (by decide)).trans z_up_s) ?_
          refine T_if0 (by decide) ?_
          refine T_of (fX12_bad_J38.eq_1 ..) ?_
          refine T_if1 (by decide) ?_
          refine T_rI ?_
          refine T_if0 (by decide) ?_
          refine T_rI ?_
          refine T_if1 (by decide +kernel) ?_
          refine T_bI ?_
          refine T_of (fX12_thrown.eq_1 ..) ?_
          refine T_if1 (by decide +kernel) ?_
          refine T_let 1 ((z_up_k (by decide)).trans z_up_s) ?_
          refine T_rI ?_
          refine T_if1 (by decide) ?_
          refine T_if1 (by decide) ?_
          refine T_of (fL_law_J451.eq_1 ..) ?_
          refine T_of (fL_law_J2073.eq_1 ..) ?_
          refine T_let 6 (by decide +kernel) ?_
          exact hr _
        · refine T_ite (fun h16 => ?_) (fun h16 => ?_)
          · refine T_rN ?_
            refine T_if1 (by decide +kernel) ?_
            refine T_let 2 (by decide +kernel) ?_
            refine T_if1 (by decide +kernel) ?_
            refine T_bI ?_
            refine T_of (fX7_get.eq_1 ..) ?_
            refine T_if0 (by decide) ?_
            refine T_if1 (by decide +kernel) ?_
            refine T_let 3 (by decide +kernel) ?_
            refine T_if1 (by decide +kernel) ?_
            refine T_let 9 (by decide +kernel) ?_
            refine T_if0 (by decide) ?_
            refine T_if1 (by decide +kernel) ?_
            refine T_let 3 (by decide +kernel) ?_
            refine T_if1 (by decide +kernel) ?_
            refine T_let 0 (by decide +kernel) ?_
            refine T_of (fX7_get_J23.eq_1 ..) ?_
            refine T_rI ?_
            refine T_if1 (by decide +kernel) ?_
            refine T_let 2 (by decide +kernel) ?_
            refine T_if1 (by decide +kernel) ?_
            refine T_bN ?_
            refine T_of (fX7_put.eq_1 ..) ?_
            refine T_if0 (by decide) ?_
            refine T_if1 (by decide +kernel) ?_
            refine T_let 3 (by decide +kernel) ?_
            refine T_if1 (by decide +kernel) ?_
            refine T_let 9 (by decide +kernel) ?_
            refine T_if0 (by decide) ?_
            refine T_if1 (by decide +kernel) ?_
            refine T_let 3 (by decide +kernel) ?_
            refine T_if1 (by decide +kernel) ?_
            refine T_up ?_
            refine T_of (fX7_put_J20.eq_1 ..) ?_
            refine T_rN ?_
            refine T_if1 (by decide +kernel) ?_
            refine T_up0 ((z_up_k (by decide)).trans (by decide +kernel)) ?_
            refine T_if0 (by decide) ?_
            refine T_if0 (by decide) ?_
            refine T_if0 (by decide) ?_
            refine T_if0 (by decide) ?_
            refine T_if1 (by decide +kernel) ?_
            refine T_up0 ((z_up_k (by decide)).trans (by decide +kernel)) ?_
            refine T_of (fX11_set_J79.eq_1 ..) ?_
            refine T_rcI ?_
            refine T_if1 (by decide +kernel) ?_
            refine T_up0 ((z_up_k (by decide)).trans (by decide +kernel)) ?_
            refine T_rI ?_
            refine T_let 1 (by decide +kernel) ?_
            refine T_if1 (by decide) ?_
            refine T_let 6 q1 ?_
            refine T_let 2 (by decide +kernel) ?_
            refine T_if1 (by decide) ?_
            refine T_let p2 q2 ?_
            refine T_if1 (by decide +kernel) ?_
            refine T_bI ?_
            refine T_of (fX12_set.eq_1 ..) ?_
            refine T_if1 (by decide +kernel) ?_
            refine T_up0 ((z_up_k (by decide)).trans (by decide +kernel)) ?_
            refine T_bI ?_
            refine T_of (fX12_more.eq_1 ..) ?_
            refine T_if0 (by decide) ?_
            refine T_of (fX12_more_J10.eq_1 ..) ?_
            refine T_rI ?_
            refine T_bI ?_
            refine T_of (fX12_less.eq_1 ..) ?_
            refine T_if0 (by decide) ?_
            refine T_of (fX12_less_J10.eq_1 ..) ?_
            refine T_rI ?_
            refine T_if0 (by decide) ?_
            refine T_if1 (by decide +kernel) ?_
            refine T_let 313 (by decide +kernel) ?_
            refine T_if1 (by decide +kernel) ?_
            refine T_let 0 ((z_up_k (by decide)).trans (by decide +kernel)) ?_
            refine T_if1 (by decide +kernel) ?_
            refine T_let 314 (by decide +kernel) ?_
            refine T_if1 (by decide +kernel) ?_
            refine T_let 1 ((z_up_k (by decide)).trans (by decide +kernel)) ?_
            refine T_bI ?_
            refine T_of (fX12_in.eq_1 ..) ?_
            refine T_if0 (by omega) ?_
            refine T_if0 (by omega) ?_
            refine T_of (fX12_in_J15.eq_1 ..) ?_
            refine T_if1 (by decide) ?_
            refine T_rI ?_
            refine T_if1 (by decide) ?_
            refine T_of (fX12_set_J46.eq_1 ..) ?_
            refine T_if1 (by decide +kernel) ?_
            refine T_bI ?_
            refine T_of (fX12_bad.eq_1 ..) ?_
            refine T_if1 (by decide) ?_
            refine T_of (fX12_bad_J26.eq_1 ..) ?_
            refine T_if1 (by decide +kernel) ?_
            refine T_let 0 ((z_up_k (by decide)).trans (by decide +kernel)) ?_
            refine T_if1 (by decide) ?_
            refine T_of (fX12_bad_J38.eq_1 ..) ?_
            refine T_if1 (by decide) ?_
            refine T_rI ?_
            refine T_if1 (by decide) ?_
            refine T_if1 (by decide +kernel) ?_
            refine T_let 312 (by decide +kernel) ?_
            refine T_if1 (by decide +kernel) ?_
            refine T_let 0 ((z_up_k (by decide)).trans (by decide +kernel)) ?_
            refine T_if1 (by decide +kernel) ?_
            refine T_let 312 (by decide +kernel) ?_
            refine T_if1 (by decide +kernel) ?_
            refine T_up ?_
            refine T_if1 (by decide +kernel) ?_
            refine T_up0 ((z_up_k (by decide)).trans ((z_up_k (by decide)).trans (by decide +kernel))) ?_
            refine T_rI ?_
            refine T_if1 (by decide +kernel) ?_
            refine T_bI ?_
            refine T_of (fX12_thrown.eq_1 ..) ?_
            refine T_if1 (by decide +kernel) ?_
            refine T_let 0 ((z_up_k (by decide)).trans ((z_up_k (by decide)).trans (by decide +kernel))) ?_
            refine T_rI ?_
            refine T_if1 (by decide) ?_
            refine T_if0 (by decide) ?_
            refine T_if1 (by decide +kernel) ?_
            refine T_let 0 ((z_up_k (by decide)).trans ((z_up_k (by decide)).trans (by decide +kernel))) ?_
            refine T_let 0 (by decide +kernel) ?_
            refine T_if1 (by decide) ?_
            refine T_of (fL_law_J451.eq_1 ..) ?_
            refine T_of (fL_law_J2073.eq_1 ..) ?_
            refine T_let 6 (by decide +kernel) ?_
            exact hr _
          · refine T_of (fX11_needWithin_J10.eq_1 ..) ?_
            refine T_if1 (by decide +kernel) ?_
            refine T_let 0 (by decide +kernel) ?_
            refine T_let 1 (by decide +kernel) ?_
            refine T_if1 (by decide +kernel) ?_
            refine T_up ?_
            refine T_xN ?_
            refine T_x1I ?_
            refine T_rI ?_
            refine T_let 1 (by decide +kernel) ?_
            refine T_if1 (by decide) ?_
            refine T_let 6 q1 ?_
            refine T_let 2 (by decide +kernel) ?_
            refine T_if1 (by decide) ?_
            refine T_let p2 q2 ?_
            refine T_if1 (by decide +kernel) ?_
            refine T_bI ?_
            refine T_of (fX12_set.eq_1 ..) ?_
            refine T_if1 (by decide +kernel) ?_
            refine T_up0 ((z_up_k (by decide)).trans (by decide +kernel)) ?_
            refine T_bI ?_
            refine T_of (fX12_more.eq_1 ..) ?_
            refine T_if0 (by decide) ?_
            refine T_of (fX12_more_J10.eq_1 ..) ?_
            refine T_rI ?_
            refine T_bI ?_
            refine T_of (fX12_less.eq_1 ..) ?_
            refine T_if0 (by decide) ?_
            refine T_of (fX12_less_J10.eq_1 ..) ?_
            refine T_rI ?_
            refine T_if0 (by decide) ?_
            refine T_if1 (by decide +kernel) ?_
            refine T_let 313 (by decide +kernel) ?_
            refine T_if1 (by decide +kernel) ?_
            refine T_let 0 ((z_up_k (by decide)).trans (by decide +kernel)) ?_
            refine T_if1 (by decide +kernel) ?_
            refine T_let 314 (by decide +kernel) ?_
            refine T_if1 (by decide +kernel) ?_
            refine T_let 1 ((z_up_k (by decide)).trans (by decide +kernel)) ?_
            refine T_bI ?_
            refine T_of (fX12_in.eq_1 ..) ?_
            refine T_if0 (by omega) ?_
            refine T_if1 (by omega) ?_
            refine T_of (fX12_in_J14.eq_1 ..) ?_
            refine T_of (fX12_in_J15.eq_1 ..) ?_
            refine T_if1 (by decide) ?_
            refine T_rI ?_
            refine T_if0 (by decide) ?_
            refine T_of (fX12_set_J41.eq_1 ..) ?_
            refine T_of (fX12_set_J46.eq_1 ..) ?_
            refine T_if1 (by decide +kernel) ?_
            refine T_bI ?_
            refine T_of (fX12_bad.eq_1 ..) ?_
            refine T_if0 (by decide) ?_
            refine T_if1 (by decide +kernel) ?_
            refine T_let 0 ((z_up_k (by decide)).trans (by decide +kernel)) ?_
            refine T_if0 (by decide) ?_
            refine T_if1 (by decide +kernel) ?_
            refine T_up ?_
            refine T_if1 (by decide +kernel) ?_
            refine T_let 310 (by decide +kernel) ?_
            refine T_if1 (by decide +kernel) ?_
            refine T_let 0 ((z_up_k (by decide)).trans ((z_up_k (by decide)).trans (by decide +kernel))) ?_
            refine T_let 1 (by decide +kernel) ?_
            refine T_if1 (by decide +kernel) ?_
            refine T_up ?_
            refine T_of (fX12_bad_J26.eq_1 ..) ?_
            refine T_if1 (by decide +kernel) ?_
            refine T_let 1 ((z_up_k (by decide)).trans z_up_s) ?_
            refine T_if0 (by decide) ?_
            refine T_of (fX12_bad_J38.eq_1 ..) ?_
            refine T_if1 (by decide) ?_
            refine T_rI ?_
            refine T_if0 (by decide) ?_
            refine T_rI ?_
            refine T_if1 (by decide +kernel) ?_
            refine T_bI ?_
            refine T_of (fX12_thrown.eq_1 ..) ?_
            refine T_if1 (by decide +kernel) ?_
            refine T_let 1 ((z_up_k (by decide)).trans z_up_s) ?_
            refine T_rI ?_
            refine T_if1 (by decide) ?_
            refine T_if1 (by decide) ?_
            refine T_of (fL_law_J451.eq_1 ..) ?_
            refine T_of (fL_law_J2073.eq_1 ..) ?_
            refine T_let 6 (by decide +kernel) ?_
            exact hr _
      · refine T_if1 (by decide +kernel) ?_
        refine T_let 0 (by decide +kernel) ?_
        refine T_of (fX11_pick_J17.eq_1 ..) ?_
        refine T_rI ?_
        refine T_bI ?_
        refine T_of (fX11_pick.eq_1 ..) ?_
        refine T_if0 (by decide) ?_
        refine T_if1 (by decide +kernel) ?_
        refine T_if0 (by decide) ?_
        refine T_if1 (by decide +kernel) ?_
        refine T_let 99 (by decide +kernel) ?_
        refine T_of (fX11_pick_J17.eq_1 ..) ?_
        refine T_rI ?_
        refine T_if1 (by decide +kernel) ?_
        refine T_bN ?_
        refine T_of (fX11_needWithin.eq_1 ..) ?_
        refine T_ite (fun h17 => ?_) (fun h17 => ?_)
        · refine T_of (fX11_needWithin_J10.eq_1 ..) ?_
          refine T_if1 (by decide +kernel) ?_
          refine T_let 0 (by decide +kernel) ?_
          refine T_let 1 (by decide +kernel) ?_
          refine T_if1 (by decide +kernel) ?_
          refine T_up ?_
          refine T_xN ?_
          refine T_x1I ?_
          refine T_rI ?_
          refine T_let 1 (by decide +kernel) ?_
          refine T_if1 (by decide) ?_
          refine T_let 7 q1 ?_
          refine T_let 2 (by decide +kernel) ?_
          refine T_if1 (by decide) ?_
          refine T_let p2 q2 ?_
          refine T_if1 (by decide +kernel) ?_
          refine T_bI ?_
          refine T_of (fX12_set.eq_1 ..) ?_
          refine T_if1 (by decide +kernel) ?_
          refine T_up0 ((z_up_k (by decide)).trans (by decide +kernel)) ?_
          refine T_bI ?_
          refine T_of (fX12_more.eq_1 ..) ?_
          refine T_if0 (by decide) ?_
          refine T_of (fX12_more_J10.eq_1 ..) ?_
          refine T_rI ?_
          refine T_bI ?_
          refine T_of (fX12_less.eq_1 ..) ?_
          refine T_if0 (by decide) ?_
          refine T_of (fX12_less_J10.eq_1 ..) ?_
          refine T_rI ?_
          refine T_if0 (by decide) ?_
          refine T_if1 (by decide +kernel) ?_
          refine T_let 313 (by decide +kernel) ?_
          refine T_if1 (by decide +kernel) ?_
          refine T_let 0 ((z_up_k (by decide)).trans (by decide +kernel)) ?_
          refine T_if1 (by decide +kernel) ?_
          refine T_let 314 (by decide +kernel) ?_
          refine T_if1 (by decide +kernel) ?_
          refine T_let 99 ((z_up_k (by decide)).trans (by decide +kernel)) ?_
          refine T_bI ?_
          refine T_of (fX12_in.eq_1 ..) ?_
          refine T_if1 (by omega) ?_
          refine T_of (fX12_in_J14.eq_1 ..) ?_
          refine T_of (fX12_in_J15.eq_1 ..) ?_
          refine T_if1 (by decide) ?_
          refine T_rI ?_
          refine T_if0 (by decide) ?_
          refine T_of (fX12_set_J41.eq_1 ..) ?_
          refine T_of (fX12_set_J46.eq_1 ..) ?_
          refine T_if1 (by decide +kernel) ?_
          refine T_bI ?_
          refine T_of (fX12_bad.eq_1 ..) ?_
          refine T_if0 (by decide) ?_
          refine T_if1 (by decide +kernel) ?_
          refine T_let 0 ((z_up_k (by decide)).trans (by decide +kernel)) ?_
          refine T_if0 (by decide) ?_
          refine T_if1 (by decide +kernel) ?_
          refine T_up ?_
          refine T_if1 (by decide +kernel) ?_
          refine T_let 310 (by decide +kernel) ?_
          refine T_if1 (by decide +kernel) ?_
          refine T_let 0 ((z_up_k (by decide)).trans ((z_up_k (by decide)).trans (by decide +kernel))) ?_
          refine T_let 1 (by decide +kernel) ?_
          refine T_if1 (by decide +kernel) ?_
          refine T_up ?_
          refine T_of (fX12_bad_J26.eq_1 ..) ?_
          refine T_if1 (by decide +kernel) ?_
          refine T_let 1 ((z_up_k (by decide)).trans z_up_s) ?_
          refine T_if0 (by decide) ?_
          refine T_of (fX12_bad_J38.eq_1 ..) ?_
          refine T_if1 (by decide) ?_
          refine T_rI ?_
          refine T_if0 (by decide) ?_
          refine T_rI ?_
          refine T_if1 (by decide +kernel) ?_
          refine T_bI ?_
          refine T_of (fX12_thrown.eq_1 ..) ?_
          refine T_if1 (by decide +kernel) ?_
          refine T_let 1 ((z_up_k (by decide)).trans z_up_s) ?_
          refine T_rI ?_
          refine T_if1 (by decide) ?_
          refine T_if1 (by decide) ?_
          refine T_of (fL_law_J451.eq_1 ..) ?_
          refine T_of (fL_law_J2073.eq_1 ..) ?_
          refine T_let 6 (by decide +kernel) ?_
          exact hr _
        · refine T_ite (fun h18 => ?_) (fun h18 => ?_)
          · refine T_rN ?_
            refine T_if1 (by decide +kernel) ?_
            refine T_let 2 (by decide +kernel) ?_
            refine T_if1 (by decide +kernel) ?_
            refine T_bI ?_
            refine T_of (fX7_get.eq_1 ..) ?_
            refine T_if0 (by decide) ?_
            refine T_if1 (by decide +kernel) ?_
            refine T_let 3 (by decide +kernel) ?_
            refine T_if1 (by decide +kernel) ?_
            refine T_let 9 (by decide +kernel) ?_
            refine T_if0 (by decide) ?_
            refine T_if1 (by decide +kernel) ?_
            refine T_let 3 (by decide +kernel) ?_
            refine T_if1 (by decide +kernel) ?_
            refine T_let 0 (by decide +kernel) ?_
            refine T_of (fX7_get_J23.eq_1 ..) ?_
            refine T_rI ?_
            refine T_if1 (by decide +kernel) ?_
            refine T_let 2 (by decide +kernel) ?_
            refine T_if1 (by decide +kernel) ?_
            refine T_bN ?_
            refine T_of (fX7_put.eq_1 ..) ?_
            refine T_if0 (by decide) ?_
            refine T_if1 (by decide +kernel) ?_
            refine T_let 3 (by decide +kernel) ?_
            refine T_if1 (by decide +kernel) ?_
            refine T_let 9 (by decide +kernel) ?_
            refine T_if0 (by decide) ?_
            refine T_if1 (by decide +kernel) ?_
            refine T_let 3 (by decide +kernel) ?_
            refine T_if1 (by decide +kernel) ?_
            refine T_up ?_
            refine T_of (fX7_put_J20.eq_1 ..) ?_
            refine T_rN ?_
            refine T_if1 (by decide +kernel) ?_
            refine T_up0 ((z_up_k (by decide)).trans (by decide +kernel)) ?_
            refine T_if0 (by decide) ?_
            refine T_if0 (by decide) ?_
            refine T_if0 (by decide) ?_
            refine T_if0 (by decide) ?_
            refine T_if1 (by decide +kernel) ?_
            refine T_up0 ((z_up_k (by decide)).trans (by decide +kernel)) ?_
            refine T_of (fX11_set_J79.eq_1 ..) ?_
            refine T_rcI ?_
            refine T_if1 (by decide +kernel) ?_
            refine T_up0 ((z_up_k (by decide)).trans (by decide +kernel)) ?_
            refine T_rI ?_
            refine T_let 1 (by decide +kernel) ?_
            refine T_if1 (by decide) ?_
            refine T_let 7 q1 ?_
            refine T_let 2 (by decide +kernel) ?_
            refine T_if1 (by decide) ?_
            refine T_let p2 q2 ?_
            refine T_if1 (by decide +kernel) ?_
            refine T_bI ?_
            refine T_of (fX12_set.eq_1 ..) ?_
            refine T_if1 (by decide +kernel) ?_
            refine T_up0 ((z_up_k (by decide)).trans (by decide +kernel)) ?_
            refine T_bI ?_
            refine T_of (fX12_more.eq_1 ..) ?_
            refine T_if0 (by decide) ?_
            refine T_of (fX12_more_J10.eq_1 ..) ?_
            refine T_rI ?_
            refine T_bI ?_
            refine T_of (fX12_less.eq_1 ..) ?_
            refine T_if0 (by decide) ?_
            refine T_of (fX12_less_J10.eq_1 ..) ?_
            refine T_rI ?_
            refine T_if0 (by decide) ?_
            refine T_if1 (by decide +kernel) ?_
            refine T_let 313 (by decide +kernel) ?_
            refine T_if1 (by decide +kernel) ?_
            refine T_let 0 ((z_up_k (by decide)).trans (by decide +kernel)) ?_
            refine T_if1 (by decide +kernel) ?_
            refine T_let 314 (by decide +kernel) ?_
            refine T_if1 (by decide +kernel) ?_
            refine T_let 99 ((z_up_k (by decide)).trans (by decide +kernel)) ?_
            refine T_bI ?_
            refine T_of (fX12_in.eq_1 ..) ?_
            refine T_if0 (by omega) ?_
            refine T_if0 (by omega) ?_
            refine T_of (fX12_in_J15.eq_1 ..) ?_
            refine T_if1 (by decide) ?_
            refine T_rI ?_
            refine T_if1 (by decide) ?_
            refine T_of (fX12_set_J46.eq_1 ..) ?_
            refine T_if1 (by decide +kernel) ?_
            refine T_bI ?_
            refine T_of (fX12_bad.eq_1 ..) ?_
            refine T_if1 (by decide) ?_
            refine T_of (fX12_bad_J26.eq_1 ..) ?_
            refine T_if1 (by decide +kernel) ?_
            refine T_let 0 ((z_up_k (by decide)).trans (by decide +kernel)) ?_
            refine T_if1 (by decide) ?_
            refine T_of (fX12_bad_J38.eq_1 ..) ?_
            refine T_if1 (by decide) ?_
            refine T_rI ?_
            refine T_if1 (by decide) ?_
            refine T_if1 (by decide +kernel) ?_
            refine T_let 312 (by decide +kernel) ?_
            refine T_if1 (by decide +kernel) ?_
            refine T_let 0 ((z_up_k (by decide)).trans (by decide +kernel)) ?_
            refine T_if1 (by decide +kernel) ?_
            refine T_let 312 (by decide +kernel) ?_
            refine T_if1 (by decide +kernel) ?_
            refine T_up ?_
            refine T_if1 (by decide +kernel) ?_
            refine T_up0 ((z_up_k (by decide)).trans ((z_up_k (by decide)).trans (by decide +kernel))) ?_
            refine T_rI ?_
            refine T_if1 (by decide +kernel) ?_
            refine T_bI ?_
            refine T_of (fX12_thrown.eq_1 ..) ?_
            refine T_if1 (by decide +kernel) ?_
            refine T_let 0 ((z_up_k (by decide)).trans ((z_up_k (by decide)).trans (by decide +kernel))) ?_
            refine T_rI ?_
            refine T_if1 (by decide) ?_
            refine T_if0 (by decide) ?_
            refine T_if1 (by decide +kernel) ?_
            refine T_let 0 ((z_up_k (by decide)).trans ((z_up_k (by decide)).trans (by decide +kernel))) ?_
            refine T_let 0 (by decide +kernel) ?_
            refine T_if1 (by decide) ?_
            refine T_of (fL_law_J451.eq_1 ..) ?_
            refine T_of (fL_law_J2073.eq_1 ..) ?_
            refine T_let 6 (by decide +kernel) ?_
            exact hr _
          · refine T_of (fX11_needWithin_J10.eq_1 ..) ?_
            refine T_if1 (by decide +kernel) ?_
            refine T_let 0 (by decide +kernel) ?_
            refine T_let 1 (by decide +kernel) ?_
            refine T_if1 (by decide +kernel) ?_
            refine T_up ?_
            refine T_xN ?_
            refine T_x1I ?_
            refine T_rI ?_
            refine T_let 1 (by decide +kernel) ?_
            refine T_if1 (by decide) ?_
            refine T_let 7 q1 ?_
            refine T_let 2 (by decide +kernel) ?_
            refine T_if1 (by decide) ?_
            refine T_let p2 q2 ?_
            refine T_if1 (by decide +kernel) ?_
            refine T_bI ?_
            refine T_of (fX12_set.eq_1 ..) ?_
            refine T_if1 (by decide +kernel) ?_
            refine T_up0 ((z_up_k (by decide)).trans (by decide +kernel)) ?_
            refine T_bI ?_
            refine T_of (fX12_more.eq_1 ..) ?_
            refine T_if0 (by decide) ?_
            refine T_of (fX12_more_J10.eq_1 ..) ?_
            refine T_rI ?_
            refine T_bI ?_
            refine T_of (fX12_less.eq_1 ..) ?_
            refine T_if0 (by decide) ?_
            refine T_of (fX12_less_J10.eq_1 ..) ?_
            refine T_rI ?_
            refine T_if0 (by decide) ?_
            refine T_if1 (by decide +kernel) ?_
            refine T_let 313 (by decide +kernel) ?_
            refine T_if1 (by decide +kernel) ?_
            refine T_let 0 ((z_up_k (by decide)).trans (by decide +kernel)) ?_
            refine T_if1 (by decide +kernel) ?_
            refine T_let 314 (by decide +kernel) ?_
            refine T_if1 (by decide +kernel) ?_
            refine T_let 99 ((z_up_k (by decide)).trans (by decide +kernel)) ?_
            refine T_bI ?_
            refine T_of (fX12_in.eq_1 ..) ?_
            refine T_if0 (by omega) ?_
            refine T_if1 (by omega) ?_
            refine T_of (fX12_in_J14.eq_1 ..) ?_
            refine T_of (fX12_in_J15.eq_1 ..) ?_
            refine T_if1 (by decide) ?_
            refine T_rI ?_
            refine T_if0 (by decide) ?_
            refine T_of (fX12_set_J41.eq_1 ..) ?_
            refine T_of (fX12_set_J46.eq_1 ..) ?_
            refine T_if1 (by decide +kernel) ?_
            refine T_bI ?_
            refine T_of (fX12_bad.eq_1 ..) ?_
            refine T_if0 (by decide) ?_
            refine T_if1 (by decide +kernel) ?_
            refine T_let 0 ((z_up_k (by decide)).trans (by decide +kernel)) ?_
            refine T_if0 (by decide) ?_
            refine T_if1 (by decide +kernel) ?_
            refine T_up ?_
            refine T_if1 (by decide +kernel) ?_
            refine T_let 310 (by decide +kernel) ?_
            refine T_if1 (by decide +kernel) ?_
            refine T_let 0 ((z_up_k (by decide)).trans ((z_up_k (by decide)).trans (by decide +kernel))) ?_
            refine T_let 1 (by decide +kernel) ?_
            refine T_if1 (by decide +kernel) ?_
            refine T_up ?_
            refine T_of (fX12_bad_J26.eq_1 ..) ?_
            refine T_if1 (by decide +kernel) ?_
            refine T_let 1 ((z_up_k (by decide)).trans z_up_s) ?_
            refine T_if0 (by decide) ?_
            refine T_of (fX12_bad_J38.eq_1 ..) ?_
            refine T_if1 (by decide) ?_
            refine T_rI ?_
            refine T_if0 (by decide) ?_
            refine T_rI ?_
            refine T_if1 (by decide +kernel) ?_
            refine T_bI ?_
            refine T_of (fX12_thrown.eq_1 ..) ?_
            refine T_if1 (by decide +kernel) ?_
            refine T_let 1 ((z_up_k (by decide)).trans z_up_s) ?_
            refine T_rI ?_
            refine T_if1 (by decide) ?_
            refine T_if1 (by decide) ?_
            refine T_of (fL_law_J451.eq_1 ..) ?_
            refine T_of (fL_law_J2073.eq_1 ..) ?_
            refine T_let 6 (by decide +kernel) ?_
            exact hr _
      · refine T_if1 (by decide +kernel) ?_
        refine T_let 0 (by decide +kernel) ?_
        refine T_of (fX11_pick_J17.eq_1 ..) ?_
        refine T_rI ?_
        refine T_bI ?_
        refine T_of (fX11_pick.eq_1 ..) ?_
        refine T_if0 (by decide) ?_
        refine T_if1 (by decide +kernel) ?_
        refine T_if0 (by decide) ?_
        refine T_if1 (by decide +kernel) ?_
        refine T_let 12 (by decide +kernel) ?_
        refine T_of (fX11_pick_J17.eq_1 ..) ?_
        refine T_rI ?_
        refine T_if1 (by decide +kernel) ?_
        refine T_bN ?_
        refine T_of (fX11_needWithin.eq_1 ..) ?_
        refine T_ite (fun h19 => ?_) (fun h19 => ?_)
        · refine T_of (fX11_needWithin_J10.eq_1 ..) ?_
          refine T_if1 (by decide +kernel) ?_
          refine T_let 0 (by decide +kernel) ?_
          refine T_let 1 (by decide +kernel) ?_
          refine T_if1 (by decide +kernel) ?_
          refine T_up ?_
          refine T_xN ?_
          refine T_x1I ?_
          refine T_rI ?_
          refine T_let 1 (by decide +kernel) ?_
          refine T_if1 (by decide) ?_
          refine T_let 8 q1 ?_
          refine T_let 2 (by decide +kernel) ?_
          refine T_if1 (by decide) ?_
          refine T_let p2 q2 ?_
          refine T_if1 (by decide +kernel) ?_
          refine T_bI ?_
          refine T_of (fX12_set.eq_1 ..) ?_
          refine T_if1 (by decide +kernel) ?_
          refine T_up0 ((z_up_k (by decide)).trans (by decide +kernel)) ?_
          refine T_bI ?_
          refine T_of (fX12_more.eq_1 ..) ?_
          refine T_if0 (by decide) ?_
          refine T_of (fX12_more_J10.eq_1 ..) ?_
          refine T_rI ?_
          refine T_bI ?_
          refine T_of (fX12_less.eq_1 ..) ?_
          refine T_if1 (by decide) ?_
          refine T_of (fX12_less_J10.eq_1 ..) ?_
          refine T_rI ?_
          refine T_if0 (by decide) ?_
          refine T_if1 (by decide +kernel) ?_
          refine T_let 313 (by decide +kernel) ?_
          refine T_if1 (by decide +kernel) ?_
          refine T_let 0 ((z_up_k (by decide)).trans (by decide +kernel)) ?_
          refine T_if1 (by decide +kernel) ?_
          refine T_let 314 (by decide +kernel) ?_
          refine T_if1 (by decide +kernel) ?_
          refine T_let 12 ((z_up_k (by decide)).trans (by decide +kernel)) ?_
          refine T_bI ?_
          refine T_of (fX12_in.eq_1 ..) ?_
          refine T_if1 (by omega) ?_
          refine T_of (fX12_in_J14.eq_1 ..) ?_
          refine T_of (fX12_in_J15.eq_1 ..) ?_
          refine T_if1 (by decide) ?_
          refine T_rI ?_
          refine T_if0 (by decide) ?_
          refine T_of (fX12_set_J41.eq_1 ..) ?_
          refine T_of (fX12_set_J46.eq_1 ..) ?_
          refine T_if1 (by decide +kernel) ?_
          refine T_bI ?_
          refine T_of (fX12_bad.eq_1 ..) ?_
          refine T_if0 (by decide) ?_
          refine T_if1 (by decide +kernel) ?_
          refine T_let 0 ((z_up_k (by decide)).trans (by decide +kernel)) ?_
          refine T_if0 (by decide) ?_
          refine T_if1 (by decide +kernel) ?_
          refine T_up ?_
          refine T_if1 (by decide +kernel) ?_
          refine T_let 310 (by decide +kernel) ?_
          refine T_if1 (by decide +kernel) ?_
          refine T_let 0 ((z_up_k (by decide)).trans ((z_up_k (by decide)).trans (by decide +kernel))) ?_
          refine T_let 1 (by decide +kernel) ?_
          refine T_if1 (by decide +kernel) ?_
          refine T_up ?_
          refine T_of (fX12_bad_J26.eq_1 ..) ?_
          refine T_if1 (by decide +kernel) ?_
          refine T_let 1 ((z_up_k (by decide)).trans z_up_s) ?_
          refine T_if0 (by decide) ?_
          refine T_of (fX12_bad_J38.eq_1 ..) ?_
          refine T_if1 (by decide) ?_
          refine T_rI ?_
          refine T_if0 (by decide) ?_
          refine T_rI ?_
          refine T_if1 (by decide +kernel) ?_
          refine T_bI ?_
          refine T_of (fX12_thrown.eq_1 ..) ?_
          refine T_if1 (by decide +kernel) ?_
          refine T_let 1 ((z_up_k (by decide)).trans z_up_s) ?_
          refine T_rI ?_
          refine T_if1 (by decide) ?_
          refine T_if1 (by decide) ?_
          refine T_of (fL_law_J451.eq_1 ..) ?_
          refine T_of (fL_law_J2073.eq_1 ..) ?_
          refine T_let 6 (by decide +kernel) ?_
          exact hr _
        · refine T_ite (fun h20 => ?_) (fun h20 => ?_)
          · refine T_rN ?_
            refine T_if1 (by decide +kernel) ?_
            refine T_let 2 (by decide +kernel) ?_
            refine T_if1 (by decide +kernel) ?_
            refine T_bI ?_
            refine T_of (fX7_get.eq_1 ..) ?_
            refine T_if0 (by decide) ?_
            refine T_if1 (by decide +kernel) ?_
            refine T_let 3 (by decide +kernel) ?_
            refine T_if1 (by decide +kernel) ?_
            refine T_let 9 (by decide +kernel) ?_
            refine T_if0 (by decide) ?_
            refine T_if1 (by decide +kernel) ?_
            refine T_let 3 (by decide +kernel) ?_
            refine T_if1 (by decide +kernel) ?_
            refine T_let 4 (by decide +kernel) ?_
            refine T_of (fX7_get_J23.eq_1 ..) ?_
            refine T_rI ?_
            refine T_if1 (by decide +kernel) ?_
            refine T_let 2 (by decide +kernel) ?_
            refine T_if1 (by decide +kernel) ?_
            refine T_bN ?_
            refine T_of (fX7_put.eq_1 ..) ?_
            refine T_if0 (by decide) ?_
            refine T_if1 (by decide +kernel) ?_
            refine T_let 3 (by decide +kernel) ?_
            refine T_if1 (by decide +kernel) ?_
            refine T_let 9 (by decide +kernel) ?_
            refine T_if0 (by decide) ?_
            refine T_if1 (by decide +kernel) ?_
            refine T_let 3 (by decide +kernel) ?_
            refine T_if1 (by decide +kernel) ?_
            refine T_up ?_
            refine T_of (fX7_put_J20.eq_1 ..) ?_
            refine T_rN ?_
            refine T_if1 (by decide +kernel) ?_
            refine T_up0 ((z_up_k (by decide)).trans (by decide +kernel)) ?_
            refine T_if0 (by decide) ?_
            refine T_if0 (by decide) ?_
            refine T_if0 (by decide) ?_
            refine T_if1 (by decide) ?_
            refine T_of (fX11_set_J79.eq_1 ..) ?_
            refine T_rcI ?_
            refine T_if1 (by decide +kernel) ?_
            refine T_up ?_
            refine T_rI ?_
            refine T_let 1 (by decide +kernel) ?_
            refine T_if1 (by decide) ?_
            refine T_let 8 q1 ?_
            refine T_let 2 (by decide +kernel) ?_
            refine T_if1 (by decide) ?_
            refine T_let p2 q2 ?_
            refine T_if1 (by decide +kernel) ?_
            refine T_bI ?_
            refine T_of (fX12_set.eq_1 ..) ?_
            refine T_if1 (by decide +kernel) ?_
            refine T_up0 ((z_up_k (by decide)).trans ((z_up_k (by decide)).trans (by decide +kernel))) ?_
            refine T_bI ?_
            refine T_of (fX12_more.eq_1 ..) ?_
            refine T_if0 (by decide) ?_
            refine T_of (fX12_more_J10.eq_1 ..) ?_
            refine T_rI ?_
            refine T_bI ?_
            refine T_of (fX12_less.eq_1 ..) ?_
            refine T_if1 (by decide) ?_
            refine T_of (fX12_less_J10.eq_1 ..) ?_
            refine T_rI ?_
            refine T_if0 (by decide) ?_
            refine T_if1 (by decide +kernel) ?_
            refine T_let 313 (by decide +kernel) ?_
            refine T_if1 (by decide +kernel) ?_
            refine T_let 0 ((z_up_k (by decide)).trans ((z_up_k (by decide)).trans (by decide +kernel))) ?_
            refine T_if1 (by decide +kernel) ?_
            refine T_let 314 (by decide +kernel) ?_
            refine T_if1 (by decide +kernel) ?_
            refine T_let 12 ((z_up_k (by decide)).trans ((z_up_k (by decide)).trans (by decide +kernel))) ?_
            refine T_bI ?_
            refine T_of (fX12_in.eq_1 ..) ?_
            refine T_if0 (by omega) ?_
            refine T_if0 (by omega) ?_
            refine T_of (fX12_in_J15.eq_1 ..) ?_
            refine T_if1 (by decide) ?_
            refine T_rI ?_
            refine T_if1 (by decide) ?_
            refine T_of (fX12_set_J46.eq_1 ..) ?_
            refine T_if1 (by decide +kernel) ?_
            refine T_bI ?_
            refine T_of (fX12_bad.eq_1 ..) ?_
            refine T_if1 (by decide) ?_
            refine T_of (fX12_bad_J26.eq_1 ..) ?_
            refine T_if1 (by decide +kernel) ?_
            refine T_let 0 ((z_up_k (by decide)).trans ((z_up_k (by decide)).trans (by decide +kernel))) ?_
            refine T_if1 (by decide) ?_
            refine T_of (fX12_bad_J38.eq_1 ..) ?_
            refine T_if1 (by decide) ?_
            refine T_rI ?_
            refine T_if1 (by decide) ?_
            refine T_if1 (by decide +kernel) ?_
            refine T_let 312 (by decide +kernel) ?_
            refine T_if1 (by decide +kernel) ?_
            refine T_let 4 ((z_up_k (by decide)).trans ((z_up_k (by decide)).trans (by decide +kernel))) ?_
            refine T_if1 (by decide +kernel) ?_
            refine T_let 312 (by decide +kernel) ?_
            refine T_if1 (by decide +kernel) ?_
            refine T_up ?_
            refine T_if1 (by decide +kernel) ?_
            refine T_up0 ((z_up_k (by decide)).trans ((z_up_k (by decide)).trans ((z_up_k (by decide)).trans (by decide +kernel)))) ?_
            refine T_rI ?_
            refine T_if1 (by decide +kernel) ?_
            refine T_bI ?_
            refine T_of (fX12_thrown.eq_1 ..) ?_
            refine T_if1 (by decide +kernel) ?_
            refine T_let 0 ((z_up_k (by decide)).trans ((z_up_k (by decide)).trans ((z_up_k (by decide)).trans (by decide +kernel)))) ?_
            refine T_rI ?_
            refine T_if1 (by decide) ?_
            refine T_if0 (by decide) ?_
            refine T_if1 (by decide +kernel) ?_
            refine T_let 4 ((z_up_k (by decide)).trans z_up_s) ?_
            refine T_let 0 (by decide +kernel) ?_
            refine T_if1 (by decide) ?_
            refine T_of (fL_law_J451.eq_1 ..) ?_
            refine T_of (fL_law_J2073.eq_1 ..) ?_
            refine T_let 6 (by decide +kernel) ?_
            exact hr _
          · refine T_of (fX11_needWithin_J10.eq_1 ..) ?_
            refine T_if1 (by decide +kernel) ?_
            refine T_let 0 (by decide +kernel) ?_
            refine T_let 1 (by decide +kernel) ?_
            refine T_if1 (by decide +kernel) ?_
            refine T_up ?_
            refine T_xN ?_
            refine T_x1I ?_
            refine T_rI ?_
            refine T_let 1 (by decide +kernel) ?_
            refine T_if1 (by decide) ?_
            refine T_let 8 q1 ?_
            refine T_let 2 (by decide +kernel) ?_
            refine T_if1 (by decide) ?_
            refine T_let p2 q2 ?_
            refine T_if1 (by decide +kernel) ?_
            refine T_bI ?_
            refine T_of (fX12_set.eq_1 ..) ?_
            refine T_if1 (by decide +kernel) ?_
            refine T_up0 ((z_up_k (by decide)).trans (by decide +kernel)) ?_
            refine T_bI ?_
            refine T_of (fX12_more.eq_1 ..) ?_
            refine T_if0 (by decide) ?_
            refine T_of (fX12_more_J10.eq_1 ..) ?_
            refine T_rI ?_
            refine T_bI ?_
            refine T_of (fX12_less.eq_1 ..) ?_
            refine T_if1 (by decide) ?_
            refine T_of (fX12_less_J10.eq_1 ..) ?_
            refine T_rI ?_
            refine T_if0 (by decide) ?_
            refine T_if1 (by decide +kernel) ?_
            refine T_let 313 (by decide +kernel) ?_
            refine T_if1 (by decide +kernel) ?_
            refine T_let 0 ((z_up_k (by decide)).trans (by decide +kernel)) ?_
            refine T_if1 (by decide +kernel) ?_
            refine T_let 314 (by decide +kernel) ?_
            refine T_if1 (by decide +kernel) ?_
            refine T_let 12 ((z_up_k (by decide)).trans (by decide +kernel)) ?_
            refine T_bI ?_
            refine T_of (fX12_in.eq_1 ..) ?_
            refine T_if0 (by omega) ?_
            refine T_if1 (by omega) ?_
            refine T_of (fX12_in_J14.eq_1 ..) ?_
            refine T_of (fX12_in_J15.eq_1 ..) ?_
            refine T_if1 (by decide) ?_
            refine T_rI ?_
            refine T_if0 (by decide) ?_
            refine T_of (fX12_set_J41.eq_1 ..) ?_
            refine T_of (fX12_set_J46.eq_1 ..) ?_
            refine T_if1 (by decide +kernel) ?_
            refine T_bI ?_
            refine T_of (fX12_bad.eq_1 ..) ?_
            refine T_if0 (by decide) ?_
            refine T_if1 (by decide +kernel) ?_
            refine T_let 0 ((z_up_k (by decide)).trans (by decide +kernel)) ?_
            refine T_if0 (by decide) ?_
            refine T_if1 (by decide +kernel) ?_
            refine T_up ?_
            refine T_if1 (by decide +kernel) ?_
            refine T_let 310 (by decide +kernel) ?_
            refine T_if1 (by decide +kernel) ?_
            refine T_let 0 ((z_up_k (by decide)).trans ((z_up_k (by decide)).trans (by decide +kernel))) ?_
            refine T_let 1 (by decide +kernel) ?_
            refine T_if1 (by decide +kernel) ?_
            refine T_up ?_
            refine T_of (fX12_bad_J26.eq_1 ..) ?_
            refine T_if1 (by decide +kernel) ?_
            refine T_let 1 ((z_up_k (by decide)).trans z_up_s) ?_
            refine T_if0 (by decide) ?_
            refine T_of (fX12_bad_J38.eq_1 ..) ?_
            refine T_if1 (by decide) ?_
            refine T_rI ?_
            refine T_if0 (by decide) ?_
            refine T_rI ?_
            refine T_if1 (by decide +kernel) ?_
            refine T_bI ?_
            refine T_of (fX12_thrown.eq_1 ..) ?_
            refine T_if1 (by decide +kernel) ?_
            refine T_let 1 ((z_up_k (by decide)).trans z_up_s) ?_
            refine T_rI ?_
            refine T_if1 (by decide) ?_
            refine T_if1 (by decide) ?_
            refine T_of (fL_law_J451.eq_1 ..) ?_
            refine T_of (fL_law_J2073.eq_1 ..) ?_
            refine T_let 6 (by decide +kernel) ?_
            exact hr _
    · refine T_of (fX11_needWithin_J10.eq_1 ..) ?_
      refine T_if1 (by decide +kernel) ?_
      refine T_let 0 (by decide +kernel) ?_
      refine T_let 1 (by decide +kernel) ?_
      refine T_if1 (by decide +kernel) ?_
      refine T_up ?_
      refine T_xN ?_
      refine T_x1I ?_
      refine T_rI ?_
      refine T_let 1 (by decide +kernel) ?_
      refine T_if1 (by decide) ?_
      refine T_let p1 q1 ?_
      refine T_let 2 (by decide +kernel) ?_
      refine T_if1 (by decide) ?_
      refine T_let p2 q2 ?_
      refine T_if1 (by decide +kernel) ?_
      refine T_bI ?_
      refine T_of (fX12_set.eq_1 ..) ?_
      refine T_if1 (by decide +kernel) ?_
      refine T_up0 ((z_up_k (by decide)).trans (by decide +kernel)) ?_
      refine T_bI ?_
      refine T_of (fX12_more.eq_1 ..) ?_
      refine T_if0 (by omega) ?_
      refine T_of (fX12_more_J10.eq_1 ..) ?_
      refine T_rI ?_
      refine T_bI ?_
      refine T_of (fX12_less.eq_1 ..) ?_
      refine T_if1 (by omega) ?_
      refine T_of (fX12_less_J10.eq_1 ..) ?_
      refine T_rI ?_
      refine T_if1 (by omega) ?_
      refine T_of (fX12_set_J41.eq_1 ..) ?_
      refine T_of (fX12_set_J46.eq_1 ..) ?_
      refine T_if1 (by decide +kernel) ?_
      refine T_bI ?_
      refine T_of (fX12_bad.eq_1 ..) ?_
      refine T_if0 (by decide) ?_
      refine T_if1 (by decide +kernel) ?_
      refine T_let 0 ((z_up_k (by decide)).trans (by decide +kernel)) ?_
      refine T_if0 (by decide) ?_
      refine T_if1 (by decide +kernel) ?_
      refine T_up ?_
      refine T_if1 (by decide +kernel) ?_
      refine T_let 310 (by decide +kernel) ?_
      refine T_if1 (by decide +kernel) ?_
      refine T_let 0 ((z_up_k (by decide)).trans ((z_up_k (by decide)).trans (by decide +kernel))) ?_
      refine T_let 1 (by decide +kernel) ?_
      refine T_if1 (by decide +kernel) ?_
      refine T_up ?_
      refine T_of (fX12_bad_J26.eq_1 ..) ?_
      refine T_if1 (by decide +kernel) ?_
      refine T_let 1 ((z_up_k (by decide)).trans z_up_s) ?_
      refine T_if0 (by decide) ?_
      refine T_of (fX12_bad_J38.eq_1 ..) ?_
      refine T_if1 (by decide) ?_
      refine T_rI ?_
      refine T_if0 (by decide) ?_
      refine T_rI ?_
      refine T_if1 (by decide +kernel) ?_
      refine T_bI ?_
      refine T_of (fX12_thrown.eq_1 ..) ?_
      refine T_if1 (by decide +kernel) ?_
      refine T_let 1 ((z_up_k (by decide)).trans z_up_s) ?_
      refine T_rI ?_
      refine T_if1 (by decide) ?_
      refine T_if1 (by decide) ?_
      refine T_of (fL_law_J451.eq_1 ..) ?_
      refine T_of (fL_law_J2073.eq_1 ..) ?_
      refine T_let 6 (by decide +kernel) ?_
      exact hr _
theorem c_454 {xs : Nat → Int32} {r : z_M → Int → z_O} {k : z_M → z_O} {P : z_V → z_M → Prop} {p1 p2 p3 p4 p5 : Int} (q1 : Int32.toInt (xs 1) = p1) (q2 : Int32.toInt (xs 2) = p2) (q3 : Int32.toInt (xs 3) = p3) (q4 : Int32.toInt (xs 4) = p4) (q5 : Int32.toInt (xs 5) = p5) (hr : ∀ s, z_T (r s 6) P) : z_T (fL_law_J454 1000 6 xs z_s0 1 309 7658 0 r k) P := by
  refine T_of (fL_law_J454.eq_1 ..) ?_
  refine T_let 1 (by decide +kernel) ?_
  refine T_if1 (by decide) ?_
  refine T_let p1 q1 ?_
  refine T_let 2 (by decide +kernel) ?_
  refine T_if1 (by decide) ?_
  refine T_let p2 q2 ?_
  refine T_bI ?_
  refine T_of (fL_cut.eq_1 ..) ?_
  refine T_if1 (by decide +kernel) ?_
  refine T_cI ?_
  refine T_of (fX11_cut.eq_1 ..) ?_
  refine T_if1 (by decide +kernel) ?_
  refine T_bN ?_
  refine T_of e_refresh ?_
  refine T_rN ?_
  refine T_if1 (by decide +kernel) ?_
  refine T_let 191 (by decide +kernel) ?_
  refine T_if1 (by decide +kernel) ?_
  refine T_let 0 ((z_up_k (by decide)).trans ((z_up_k (by decide)).trans (by decide +kernel))) ?_
  refine T_if1 (by decide +kernel) ?_
  refine T_bN ?_
  refine T_of (fX11_needExisting.eq_1 ..) ?_
  refine T_ite (fun h1 => ?_) (fun h1 => ?_)
  · refine T_of (fX11_needExisting_J9.eq_1 ..) ?_
    refine T_if1 (by decide +kernel) ?_
    refine T_let 0 ((z_up_j (by decide)).trans ((z_up_j (by decide)).trans (by decide +kernel))) ?_
    refine T_let 1 (by decide +kernel) ?_
    refine T_if1 (by decide +kernel) ?_
    refine T_up ?_
    refine T_xN ?_
    refine T_x0I ?_
    refine T_rI ?_
    refine T_let 1 (by decide +kernel) ?_
    refine T_if1 (by decide) ?_
    refine T_let p1 q1 ?_
    refine T_let 2 (by decide +kernel) ?_
    refine T_if1 (by decide) ?_
    refine T_let p2 q2 ?_
    refine T_if1 (by decide +kernel) ?_
    refine T_bI ?_
    refine T_of (fX12_cut.eq_1 ..) ?_
    refine T_if1 (by decide +kernel) ?_
    refine T_up0 ((z_up_k (by decide)).trans ((z_up_k (by decide)).trans ((z_up_k (by decide)).trans (by decide +kernel)))) ?_
    refine T_if1 (by decide +kernel) ?_
    refine T_bI ?_
    refine T_of (fX12_isUnit.eq_1 ..) ?_
    refine T_if1 (by decide +kernel) ?_
    refine T_let 0 ((z_up_k (by decide)).trans ((z_up_k (by decide)).trans ((z_up_k (by decide)).trans (by decide +kernel)))) ?_
    refine T_let (-1) (by decide +kernel) ?_
    refine T_bI ?_
    refine T_of (fX12_in.eq_1 ..) ?_
    refine T_if1 (by omega) ?_
    refine T_of (fX12_in_J14.eq_1 ..) ?_
    refine T_of (fX12_in_J15.eq_1 ..) ?_
    refine T_if1 (by decide) ?_
    refine T_rI ?_
    refine T_if1 (by decide) ?_
    refine T_rI ?_
    refine T_if1 (by decide) ?_
    refine T_of (fX12_cut_J22.eq_1 ..) ?_
    refine T_of (fX12_cut_J27.eq_1 ..) ?_
    refine T_if1 (by decide +kernel) ?_
    refine T_bI ?_
    refine T_of (fX12_bad.eq_1 ..) ?_
    refine T_if0 (by decide) ?_
    refine T_if1 (by decide +kernel) ?_
    refine T_let 0 ((z_up_k (by decide)).trans ((z_up_k (by decide)).trans ((z_up_k (by decide)).trans (by decide +kernel)))) ?_
    refine T_if0 (by decide) ?_
    refine T_if1 (by decide +kernel) ?_
    refine T_up ?_
    refine T_if1 (by decide +kernel) ?_
    refine T_let 310 (by decide +kernel) ?_
    refine T_if1 (by decide +kernel) ?_
    refine T_let 0 ((z_up_k (by decide)).trans ((z_up_k (by decide)).trans ((z_up_k (by decide)).trans ((z_up_k (by decide)).trans (by decide +kernel))))) ?_
    refine T_let 1 (by decide +kernel) ?_
    refine T_if1 (by decide +kernel) ?_
    refine T_up ?_
    refine T_of (fX12_bad_J26.eq_1 ..) ?_
    refine T_if1 (by decide +kernel) ?_
    refine T_let 1 ((z_up_k (by decide)).trans z_up_s) ?_
    refine T_if0 (by decide) ?_
    refine T_of (fX12_bad_J38.eq_1 ..) ?_
    refine T_if1 (by decide) ?_
    refine T_rI ?_
    refine T_if1 (by decide) ?_
    refine T_of (fX12_cut_J54.eq_1 ..) ?_
    refine T_rI ?_
    refine T_if1 (by decide +kernel) ?_
    refine T_bI ?_
    refine T_of (fX12_thrown.eq_1 ..) ?_
    refine T_if1 (by decide +kernel) ?_
    refine T_let 1 ((z_up_k (by decide)).trans z_up_s) ?_
    refine T_rI ?_
    refine T_if1 (by decide) ?_
    refine T_if1 (by decide) ?_
    refine T_of (fL_law_J519.eq_1 ..) ?_
    refine T_of (fL_law_J2073.eq_1 ..) ?_
    refine T_let 6 (by decide +kernel) ?_
    exact hr _
  · refine T_if0 (by omega) ?_
    refine T_of (fX11_needExisting_J9.eq_1 ..) ?_
    refine T_if1 (by decide +kernel) ?_
    refine T_let 0 ((z_up_j (by decide)).trans ((z_up_j (by decide)).trans (by decide +kernel))) ?_
    refine T_let 1 (by decide +kernel) ?_
    refine T_if1 (by decide +kernel) ?_
    refine T_up ?_
    refine T_xN ?_
    refine T_x0I ?_
    refine T_rI ?_
    refine T_let 1 (by decide +kernel) ?_
    refine T_if1 (by decide) ?_
    refine T_let p1 q1 ?_
    refine T_let 2 (by decide +kernel) ?_
    refine T_if1 (by decide) ?_
    refine T_let p2 q2 ?_
    refine T_if1 (by decide +kernel) ?_
    refine T_bI ?_
    refine T_of (fX12_cut.eq_1 ..) ?_
    refine T_if1 (by decide +kernel) ?_
    refine T_up0 ((z_up_k (by decide)).trans ((z_up_k (by decide)).trans ((z_up_k (by decide)).trans (by decide +kernel)))) ?_
    refine T_if1 (by decide +kernel) ?_
    refine T_bI ?_
    refine T_of (fX12_isUnit.eq_1 ..) ?_
    refine T_if1 (by decide +kernel) ?_
    refine T_let 0 ((z_up_k (by decide)).trans ((z_up_k (by decide)).trans ((z_up_k (by decide)).trans (by decide +kernel)))) ?_
    refine T_let (-1) (by decide +kernel) ?_
    refine T_bI ?_
    refine T_of (fX12_in.eq_1 ..) ?_
    refine T_if0 (by omega) ?_
    refine T_if1 (by omega) ?_
    refine T_of (fX12_in_J14.eq_1 ..) ?_
    refine T_of (fX12_in_J15.eq_1 ..) ?_
    refine T_if1 (by decide) ?_
    refine T_rI ?_
    refine T_if1 (by decide) ?_
    refine T_rI ?_
    refine T_if1 (by decide) ?_
    refine T_of (fX12_cut_J22.eq_1 ..) ?_
    refine T_of (fX12_cut_J27.eq_1 ..) ?_
    refine T_if1 (by decide +kernel) ?_
    refine T_bI ?_
    refine T_of (fX12_bad.eq_1 ..) ?_
    refine T_if0 (by decide) ?_
    refine T_if1 (by decide +kernel) ?_
    refine T_let 0 ((z_up_k (by decide)).trans ((z_up_k (by decide)).trans ((z_up_k (by decide)).trans (by decide +kernel)))) ?_
    refine T_if0 (by decide) ?_
    refine T_if1 (by decide +kernel) ?_
    refine T_up ?_
    refine T_if1 (by decide +kernel) ?_
    refine T_let 310 (by decide +kernel) ?_
    refine T_if1 (by decide +kernel) ?_
    refine T_let 0 ((z_up_k (by decide)).trans ((z_up_k (by decide)).trans ((z_up_k (by decide)).trans ((z_up_k (by decide)).trans (by decide +kernel))))) ?_
    refine T_let 1 (by decide +kernel) ?_
    refine T_if1 (by decide +kernel) ?_
    refine T_up ?_
    refine T_of (fX12_bad_J26.eq_1 ..) ?_
    refine T_if1 (by decide +kernel) ?_
    refine T_let 1 ((z_up_k (by decide)).trans z_up_s) ?_
    refine T_if0 (by decide) ?_
    refine T_of (fX12_bad_J38.eq_1 ..) ?_
    refine T_if1 (by decide) ?_
    refine T_rI ?_
    refine T_if1 (by decide) ?_
    refine T_of (fX12_cut_J54.eq_1 ..) ?_
    refine T_rI ?_
    refine T_if1 (by decide +kernel) ?_
    refine T_bI ?_
    refine T_of (fX12_thrown.eq_1 ..) ?_
    refine T_if1 (by decide +kernel) ?_
    refine T_let 1 ((z_up_k (by decide)).trans z_up_s) ?_
    refine T_rI ?_
    refine T_if1 (by decide) ?_
    refine T_if1 (by decide) ?_
    refine T_of (fL_law_J519.eq_1 ..) ?_
    refine T_of (fL_law_J2073.eq_1 ..) ?_
    refine T_let 6 (by decide +kernel) ?_
    exact hr _
theorem c_522 {xs : Nat → Int32} {r : z_M → Int → z_O} {k : z_M → z_O} {P : z_V → z_M → Prop} {p1 p2 p3 p4 p5 : Int} (q1 : Int32.toInt (xs 1) = p1) (q2 : Int32.toInt (xs 2) = p2) (q3 : Int32.toInt (xs 3) = p3) (q4 : Int32.toInt (xs 4) = p4) (q5 : Int32.toInt (xs 5) = p5) (hr : ∀ s, z_T (r s 6) P) : z_T (fL_law_J522 1000 6 xs z_s0 1 309 7658 0 r k) P := by
  refine T_of (fL_law_J522.eq_1 ..) ?_
  refine T_if1 (by decide +kernel) ?_
  refine T_bI ?_
  refine T_of (fX11_undo.eq_1 ..) ?_
  refine T_if1 (by decide +kernel) ?_
  refine T_let 33 (by decide +kernel) ?_
  refine T_if1 (by decide +kernel) ?_
  refine T_let 6 (by decide +kernel) ?_
  refine T_if1 (by decide +kernel) ?_
  refine T_bI ?_
  refine T_of (fX2_takeBack.eq_1 ..) ?_
  refine T_if1 (by decide +kernel) ?_
  refine T_let 0 (by decide +kernel) ?_
  refine T_if0 (by decide) ?_
  refine T_if1 (by decide) ?_
  refine T_rI ?_
  refine T_if0 (by decide) ?_
  refine T_rI ?_
  refine T_if1 (by decide +kernel) ?_
  refine T_bI ?_
  refine T_of (fX12_undo.eq_1 ..) ?_
  refine T_if1 (by decide +kernel) ?_
  refine T_up0 (by decide +kernel) ?_
  refine T_if1 (by decide +kernel) ?_
  refine T_let 0 (by decide +kernel) ?_
  refine T_if0 (by decide) ?_
  refine T_rI ?_
  refine T_if1 (by decide) ?_
  refine T_of (fL_law_J2073.eq_1 ..) ?_
  refine T_let 6 (by decide +kernel) ?_
  exact hr _
