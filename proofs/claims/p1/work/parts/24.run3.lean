/-! THE RUNS of one call on a fresh object (by program, wip/tool/mkrun.py) -/
theorem c_535 {xs : Nat → Int32} {r : z_M → Int → z_O} {k : z_M → z_O} {P : z_V → z_M → Prop} {p1 p2 p3 p4 p5 : Int} (q1 : Int32.toInt (xs 1) = p1) (q2 : Int32.toInt (xs 2) = p2) (q3 : Int32.toInt (xs 3) = p3) (q4 : Int32.toInt (xs 4) = p4) (q5 : Int32.toInt (xs 5) = p5) (hr : ∀ s, z_T (r s 6) P) : z_T (fL_law_J535 1000 6 xs z_s0 1 309 7658 0 r k) P := by
  refine T_of (fL_law_J535.eq_1 ..) ?_
  refine T_let 1 (by decide +kernel) ?_
  refine T_if1 (by decide) ?_
  refine T_let p1 q1 ?_
  refine T_bI ?_
  refine T_of (fL_told.eq_1 ..) ?_
  refine T_if1 (by decide +kernel) ?_
  refine T_cL ?_
  refine T_of (fX11_told.eq_1 ..) ?_
  refine T_if1 (by decide +kernel) ?_
  refine T_bN ?_
  refine T_of (fX11_needWithin.eq_1 ..) ?_
  refine T_ite (fun h1 => ?_) (fun h1 => ?_)
  · refine T_of (fX11_needWithin_J10.eq_1 ..) ?_
    refine T_if1 (by decide +kernel) ?_
    refine T_let 0 (by decide +kernel) ?_
    refine T_let 1 (by decide +kernel) ?_
    refine T_if1 (by decide +kernel) ?_
    refine T_up ?_
    refine T_xN ?_
    refine T_x1L ?_
    refine T_rI ?_
    refine T_let 1 (by decide +kernel) ?_
    refine T_if1 (by decide) ?_
    refine T_let p1 q1 ?_
    refine T_if1 (by decide +kernel) ?_
    refine T_bL ?_
    refine T_of (fX12_told.eq_1 ..) ?_
    refine T_if1 (by decide +kernel) ?_
    refine T_up0 ((z_up_k (by decide)).trans (by decide +kernel)) ?_
    refine T_bI ?_
    refine T_of (fX12_in.eq_1 ..) ?_
    refine T_if1 (by omega) ?_
    refine T_of (fX12_in_J14.eq_1 ..) ?_
    refine T_of (fX12_in_J15.eq_1 ..) ?_
    refine T_if1 (by decide) ?_
    refine T_rI ?_
    refine T_if0 (by decide) ?_
    refine T_of (fX12_told_J21.eq_1 ..) ?_
    refine T_if1 (by decide +kernel) ?_
    refine T_bI ?_
    refine T_of (fX12_bad.eq_1 ..) ?_
    refine T_if0 (by decide) ?_
    refine T_if1 (by decide +kernel) ?_
    refine T_let 0 ((z_up_k (by decide)).trans (by decide +kernel)) ?_
    refine T_if0 (by decide) ?_
    refine T_if1 (by decide +kernel) ?_
    refine T_up ?_
    refine T_if1 (by decide +kernel) ?_
    refine T_let 310 (by decide +kernel) ?_
    refine T_if1 (by decide +kernel) ?_
    refine T_let 0 ((z_up_k (by decide)).trans ((z_up_k (by decide)).trans (by decide +kernel))) ?_
    refine T_let 1 (by decide +kernel) ?_
    refine T_if1 (by decide +kernel) ?_
    refine T_up ?_
    refine T_of (fX12_bad_J26.eq_1 ..) ?_
    refine T_if1 (by decide +kernel) ?_
    refine T_let 1 ((z_up_k (by decide)).trans z_up_s) ?_
    refine T_if0 (by decide) ?_
    refine T_of (fX12_bad_J38.eq_1 ..) ?_
    refine T_if1 (by decide) ?_
    refine T_rI ?_
    refine T_if0 (by decide) ?_
    refine T_rL ?_
    refine T_if1 (by decide +kernel) ?_
    refine T_bI ?_
    refine T_of (fX12_thrown.eq_1 ..) ?_
    refine T_if1 (by decide +kernel) ?_
    refine T_let 1 ((z_up_k (by decide)).trans z_up_s) ?_
    refine T_rI ?_
    refine T_if1 (by decide) ?_
    refine T_if1 (by decide) ?_
    refine T_of (fL_law_J587.eq_1 ..) ?_
    refine T_of (fL_law_J2073.eq_1 ..) ?_
    refine T_let 6 (by decide +kernel) ?_
    exact hr _
  · refine T_ite (fun h2 => ?_) (fun h2 => ?_)
    · refine T_rN ?_
      refine T_if1 (by decide +kernel) ?_
      refine T_bN ?_
      refine T_of e_refresh ?_
      refine T_rN ?_
      refine T_ite (fun h3 => ?_) (fun h3 => ?_)
      · subst h3
        refine T_if1 (by decide +kernel) ?_
        refine T_let 191 (by decide +kernel) ?_
        refine T_if1 (by decide +kernel) ?_
        refine T_let 0 ((z_up_k (by decide)).trans ((z_up_k (by decide)).trans (by decide +kernel))) ?_
        refine T_rcL ?_
        refine T_if1 (by decide +kernel) ?_
        refine T_up0 ((z_up_k (by decide)).trans ((z_up_k (by decide)).trans (by decide +kernel))) ?_
        refine T_rI ?_
        refine T_let 1 (by decide +kernel) ?_
        refine T_if1 (by decide) ?_
        refine T_let 0 q1 ?_
        refine T_if1 (by decide +kernel) ?_
        refine T_bL ?_
        refine T_of (fX12_told.eq_1 ..) ?_
        refine T_if1 (by decide +kernel) ?_
        refine T_up0 ((z_up_k (by decide)).trans ((z_up_k (by decide)).trans (by decide +kernel))) ?_
        refine T_bI ?_
        refine T_of (fX12_in.eq_1 ..) ?_
        refine T_if0 (by decide) ?_
        refine T_if0 (by decide) ?_
        refine T_of (fX12_in_J15.eq_1 ..) ?_
        refine T_if1 (by decide) ?_
        refine T_rI ?_
        refine T_if1 (by decide) ?_
        refine T_of (fX12_told_J21.eq_1 ..) ?_
        refine T_if1 (by decide +kernel) ?_
        refine T_bI ?_
        refine T_of (fX12_bad.eq_1 ..) ?_
        refine T_if1 (by decide) ?_
        refine T_of (fX12_bad_J26.eq_1 ..) ?_
        refine T_if1 (by decide +kernel) ?_
        refine T_let 0 ((z_up_k (by decide)).trans ((z_up_k (by decide)).trans (by decide +kernel))) ?_
        refine T_if1 (by decide) ?_
        refine T_of (fX12_bad_J38.eq_1 ..) ?_
        refine T_if1 (by decide) ?_
        refine T_rI ?_
        refine T_if1 (by decide) ?_
        refine T_if1 (by decide +kernel) ?_
        refine T_bN ?_
        refine T_of (fX12_laysAll.eq_1 ..) ?_
        refine T_if1 (by decide +kernel) ?_
        refine T_bN ?_
        refine T_of (fX12_freshens.eq_1 ..) ?_
        refine T_if1 (by decide +kernel) ?_
        refine T_let 0 ((z_up_k (by decide)).trans ((z_up_k (by decide)).trans (by decide +kernel))) ?_
        refine T_if1 (by decide) ?_
        refine T_of (fX12_freshens_L10.eq_2 ..) ?_
        refine T_if1 (by decide +kernel) ?_
        refine T_let 0 ((z_up_k (by decide)).trans ((z_up_k (by decide)).trans (by decide +kernel))) ?_
        refine T_if1 (by decide) ?_
        refine T_if1 (by decide +kernel) ?_
        refine T_bN ?_
        refine T_of (fX12_laysPairs.eq_1 ..) ?_
        refine T_if1 (by decide +kernel) ?_
        refine T_up0 ((z_up_k (by decide)).trans ((z_up_k (by decide)).trans (by decide +kernel))) ?_
        refine T_if1 (by decide +kernel) ?_
        refine T_up0 ((z_up_k (by decide)).trans ((z_up_k (by decide)).trans (by decide +kernel))) ?_
        refine T_of (fX12_laysPairs_L14.eq_2 ..) ?_
        refine T_if1 (by decide +kernel) ?_
        refine T_let 0 ((z_up_k (by decide)).trans ((z_up_k (by decide)).trans (by decide +kernel))) ?_
        refine T_if1 (by decide) ?_
        refine T_rN ?_
        refine T_if1 (by decide +kernel) ?_
        refine T_up ?_
        refine T_if1 (by decide +kernel) ?_
        refine T_up0 ((z_up_j (by decide)).trans ((z_up_k (by decide)).trans ((z_up_k (by decide)).trans (by decide +kernel)))) ?_
        refine T_rN ?_
        refine T_if1 (by decide +kernel) ?_
        refine T_let 0 ((z_up_j (by decide)).trans ((z_up_k (by decide)).trans ((z_up_k (by decide)).trans (by decide +kernel)))) ?_
        refine T_if1 (by decide) ?_
        refine T_if1 (by decide +kernel) ?_
        refine T_let 312 (by decide +kernel) ?_
        refine T_if1 (by decide +kernel) ?_
        refine T_let 120 ((z_up_k (by decide)).trans ((z_up_k (by decide)).trans ((z_up_k (by decide)).trans (by decide +kernel)))) ?_
        refine T_if1 (by decide +kernel) ?_
        refine T_let 312 (by decide +kernel) ?_
        refine T_if1 (by decide +kernel) ?_
        refine T_let 0 ((z_up_k (by decide)).trans ((z_up_k (by decide)).trans ((z_up_k (by decide)).trans (by decide +kernel)))) ?_
        refine T_if1 (by decide +kernel) ?_
        refine T_bI ?_
        refine T_of (fX12_breaks.eq_1 ..) ?_
        refine T_if1 (by decide) ?_
        refine T_of (fX12_breaks_L15.eq_2 ..) ?_
        refine T_if1 (by decide +kernel) ?_
        refine T_let 0 ((z_up_j (by decide)).trans ((z_up_k (by decide)).trans ((z_up_k (by decide)).trans (by decide +kernel)))) ?_
        refine T_if1 (by decide) ?_
        refine T_if1 (by decide +kernel) ?_
        refine T_let 3438 (by decide +kernel) ?_
        refine T_if1 (by decide +kernel) ?_
        refine T_let 0 ((z_up_j (by decide)).trans ((z_up_k (by decide)).trans ((z_up_k (by decide)).trans (by decide +kernel)))) ?_
        refine T_if1 (by decide +kernel) ?_
        refine T_up0 ((z_up_k (by decide)).trans ((z_up_k (by decide)).trans ((z_up_k (by decide)).trans (by decide +kernel)))) ?_
        refine T_rI ?_
        refine T_if1 (by decide +kernel) ?_
        refine T_up0 ((z_up_j (by decide)).trans ((z_up_k (by decide)).trans ((z_up_k (by decide)).trans (by decide +kernel)))) ?_
        refine T_if1 (by decide +kernel) ?_
        refine T_up0 ((z_up_j (by decide)).trans ((z_up_k (by decide)).trans ((z_up_k (by decide)).trans (by decide +kernel)))) ?_
        refine T_of (fX12_laysAll_L39.eq_2 ..) ?_
        refine T_if1 (by decide +kernel) ?_
        refine T_let 0 ((z_up_j (by decide)).trans ((z_up_k (by decide)).trans ((z_up_k (by decide)).trans (by decide +kernel)))) ?_
        refine T_if1 (by decide) ?_
        refine T_if1 (by decide +kernel) ?_
        refine T_up ?_
        refine T_rN ?_
        refine T_if1 (by decide) ?_
        refine T_if1 (by decide +kernel) ?_
        refine T_let 0 ((z_up_j (by decide)).trans ((z_up_j (by decide)).trans ((z_up_k (by decide)).trans ((z_up_k (by decide)).trans (by decide +kernel))))) ?_
        refine T_rL ?_
        refine T_if1 (by decide +kernel) ?_
        refine T_bI ?_
        refine T_of (fX12_thrown.eq_1 ..) ?_
        refine T_if1 (by decide +kernel) ?_
        refine T_let 0 ((z_up_j (by decide)).trans ((z_up_j (by decide)).trans ((z_up_k (by decide)).trans ((z_up_k (by decide)).trans (by decide +kernel))))) ?_
        refine T_rI ?_
        refine T_if1 (by decide) ?_
        refine T_if0 (by decide) ?_
        refine T_if1 (by decide +kernel) ?_
        refine T_let 0 ((z_up_k (by decide)).trans ((z_up_k (by decide)).trans ((z_up_k (by decide)).trans ((z_up_k (by decide)).trans (by decide +kernel))))) ?_
        refine T_let 0 (by decide +kernel) ?_
        refine T_if1 (by decide) ?_
        refine T_of (fL_law_J587.eq_1 ..) ?_
        refine T_of (fL_law_J2073.eq_1 ..) ?_
        refine T_let 6 (by decide +kernel) ?_
        exact hr _
      · refine T_ite (fun h4 => ?_) (fun h4 => ?_)
        · subst h4
          refine T_if1 (by decide +kernel) ?_
          refine T_let 6 (by decide +kernel) ?_
          refine T_if1 (by decide +kernel) ?_
          refine T_let 0 ((z_up_k (by decide)).trans ((z_up_k (by decide)).trans (by decide +kernel))) ?_
          refine T_rcL ?_
          refine T_if1 (by decide +kernel) ?_
          refine T_up0 ((z_up_k (by decide)).trans ((z_up_k (by decide)).trans (by decide +kernel))) ?_
          refine T_rI ?_
          refine T_let 1 (by decide +kernel) ?_
          refine T_if1 (by decide) ?_
          refine T_let 1 q1 ?_
          refine T_if1 (by decide +kernel) ?_
          refine T_bL ?_
          refine T_of (fX12_told.eq_1 ..) ?_
          refine T_if1 (by decide +kernel) ?_
          refine T_up0 ((z_up_k (by decide)).trans ((z_up_k (by decide)).trans (by decide +kernel))) ?_
          refine T_bI ?_
          refine T_of (fX12_in.eq_1 ..) ?_
          refine T_if0 (by decide) ?_
          refine T_if0 (by decide) ?_
          refine T_of (fX12_in_J15.eq_1 ..) ?_
          refine T_if1 (by decide) ?_
          refine T_rI ?_
          refine T_if1 (by decide) ?_
          refine T_of (fX12_told_J21.eq_1 ..) ?_
          refine T_if1 (by decide +kernel) ?_
          refine T_bI ?_
          refine T_of (fX12_bad.eq_1 ..) ?_
          refine T_if1 (by decide) ?_
          refine T_of (fX12_bad_J26.eq_1 ..) ?_
          refine T_if1 (by decide +kernel) ?_
          refine T_let 0 ((z_up_k (by decide)).trans ((z_up_k (by decide)).trans (by decide +kernel))) ?_
          refine T_if1 (by decide) ?_
          refine T_of (fX12_bad_J38.eq_1 ..) ?_
          refine T_if1 (by decide) ?_
          refine T_rI ?_
          refine T_if1 (by decide) ?_
          refine T_if1 (by decide +kernel) ?_
          refine T_bN ?_
          refine T_of (fX12_laysAll.eq_1 ..) ?_
          refine T_if1 (by decide +kernel) ?_
          refine T_bN ?_
          refine T_of (fX12_freshens.eq_1 ..) ?_
          refine T_if1 (by decide +kernel) ?_
          refine T_let 0 ((z_up_k (by decide)).trans ((z_up_k (by decide)).trans (by decide +kernel))) ?_
          refine T_if1 (by decide) ?_
          refine T_of (fX12_freshens_L10.eq_2 ..) ?_
          refine T_if1 (by decide +kernel) ?_
          refine T_let 0 ((z_up_k (by decide)).trans ((z_up_k (by decide)).trans (by decide +kernel))) ?_
          refine T_if1 (by decide) ?_
          refine T_if1 (by decide +kernel) ?_
          refine T_bN ?_
          refine T_of (fX12_laysPairs.eq_1 ..) ?_
          refine T_if1 (by decide +kernel) ?_
          refine T_up0 ((z_up_k (by decide)).trans ((z_up_k (by decide)).trans (by decide +kernel))) ?_
          refine T_if1 (by decide +kernel) ?_
          refine T_up0 ((z_up_k (by decide)).trans ((z_up_k (by decide)).trans (by decide +kernel))) ?_
          refine T_of (fX12_laysPairs_L14.eq_2 ..) ?_
          refine T_if1 (by decide +kernel) ?_
          refine T_let 0 ((z_up_k (by decide)).trans ((z_up_k (by decide)).trans (by decide +kernel))) ?_
          refine T_if1 (by decide) ?_
          refine T_rN ?_
          refine T_if1 (by decide +kernel) ?_
          refine T_up ?_
          refine T_if1 (by decide +kernel) ?_
          refine T_up0 ((z_up_j (by decide)).trans ((z_up_k (by decide)).trans ((z_up_k (by decide)).trans (by decide +kernel)))) ?_
          refine T_rN ?_
          refine T_if1 (by decide +kernel) ?_
          refine T_let 0 ((z_up_j (by decide)).trans ((z_up_k (by decide)).trans ((z_up_k (by decide)).trans (by decide +kernel)))) ?_
          refine T_if1 (by decide) ?_
          refine T_if1 (by decide +kernel) ?_
          refine T_let 312 (by decide +kernel) ?_
          refine T_if1 (by decide +kernel) ?_
          refine T_let 120 ((z_up_k (by decide)).trans ((z_up_k (by decide)).trans ((z_up_k (by decide)).trans (by decide +kernel)))) ?_
          refine T_if1 (by decide +kernel) ?_
          refine T_let 312 (by decide +kernel) ?_
          refine T_if1 (by decide +kernel) ?_
          refine T_let 0 ((z_up_k (by decide)).trans ((z_up_k (by decide)).trans ((z_up_k (by decide)).trans (by decide +kernel)))) ?_
          refine T_if1 (by decide +kernel) ?_
          refine T_bI ?_
          refine T_of (fX12_breaks.eq_1 ..) ?_
          refine T_if1 (by decide) ?_
          refine T_of (fX12_breaks_L15.eq_2 ..) ?_
          refine T_if1 (by decide +kernel) ?_
          refine T_let 0 ((z_up_j (by decide)).trans ((z_up_k (by decide)).trans ((z_up_k (by decide)).trans (by decide +kernel)))) ?_
          refine T_if1 (by decide) ?_
          refine T_if1 (by decide +kernel) ?_
          refine T_let 3438 (by decide +kernel) ?_
          refine T_if1 (by decide +kernel) ?_
          refine T_let 0 ((z_up_j (by decide)).trans ((z_up_k (by decide)).trans ((z_up_k (by decide)).trans (by decide +kernel)))) ?_
          refine T_if1 (by decide +kernel) ?_
          refine T_up0 ((z_up_k (by decide)).trans ((z_up_k (by decide)).trans ((z_up_k (by decide)).trans (by decide +kernel)))) ?_
          refine T_rI ?_
          refine T_if1 (by decide +kernel) ?_
          refine T_up0 ((z_up_j (by decide)).trans ((z_up_k (by decide)).trans ((z_up_k (by decide)).trans (by decide +kernel)))) ?_
          refine T_if1 (by decide +kernel) ?_
          refine T_up0 ((z_up_j (by decide)).trans ((z_up_k (by decide)).trans ((z_up_k (by decide)).trans (by decide +kernel)))) ?_
          refine T_of (fX12_laysAll_L39.eq_2 ..) ?_
          refine T_if1 (by decide +kernel) ?_
          refine T_let 0 ((z_up_j (by decide)).trans ((z_up_k (by decide)).trans ((z_up_k (by decide)).trans (by decide +kernel)))) ?_
          refine T_if1 (by decide) ?_
          refine T_if1 (by decide +kernel) ?_
          refine T_up ?_
          refine T_rN ?_
          refine T_if0 (by decide) ?_
          refine T_if1 (by decide) ?_
          refine T_if1 (by decide +kernel) ?_
          refine T_let 315 (by decide +kernel) ?_
          refine T_if1 (by decide +kernel) ?_
          refine T_let 316 (by decide +kernel) ?_
          refine T_if1 (by decide +kernel) ?_
          refine T_let 0 ((z_up_k (by decide)).trans ((z_up_k (by decide)).trans ((z_up_k (by decide)).trans ((z_up_k (by decide)).trans (by decide +kernel))))) ?_
          refine T_rL ?_
          refine T_if1 (by decide +kernel) ?_
          refine T_bI ?_
          refine T_of (fX12_thrown.eq_1 ..) ?_
          refine T_if1 (by decide +kernel) ?_
          refine T_let 0 ((z_up_j (by decide)).trans ((z_up_j (by decide)).trans ((z_up_k (by decide)).trans ((z_up_k (by decide)).trans (by decide +kernel))))) ?_
          refine T_rI ?_
          refine T_if1 (by decide) ?_
          refine T_if0 (by decide) ?_
          refine T_if1 (by decide +kernel) ?_
          refine T_let 0 ((z_up_k (by decide)).trans ((z_up_k (by decide)).trans ((z_up_k (by decide)).trans ((z_up_k (by decide)).trans (by decide +kernel))))) ?_
          refine T_let 0 (by decide +kernel) ?_
          refine T_if1 (by decide) ?_
          refine T_of (fL_law_J587.eq_1 ..) ?_
          refine T_of (fL_law_J2073.eq_1 ..) ?_
          refine T_let 6 (by decide +kernel) ?_
          exact hr _
        · refine T_ite (fun h5 => ?_) (fun h5 => ?_)
          · subst h5
            refine T_if1 (by decide +kernel) ?_
            refine T_let 6 (by decide +kernel) ?_
            refine T_if1 (by decide +kernel) ?_
            refine T_let 0 ((z_up_k (by decide)).trans ((z_up_k (by decide)).trans (by decide +kernel))) ?_
            refine T_rcL ?_
            refine T_if1 (by decide +kernel) ?_
            refine T_up0 ((z_up_k (by decide)).trans ((z_up_k (by decide)).trans (by decide +kernel))) ?_
            refine T_rI ?_
            refine T_let 1 (by decide +kernel) ?_
            refine T_if1 (by decide) ?_
            refine T_let 2 q1 ?_
            refine T_if1 (by decide +kernel) ?_
            refine T_bL ?_
            refine T_of (fX12_told.eq_1 ..) ?_
            refine T_if1 (by decide +kernel) ?_
            refine T_up0 ((z_up_k (by decide)).trans ((z_up_k (by decide)).trans (by decide +kernel))) ?_
            refine T_bI ?_
            refine T_of (fX12_in.eq_1 ..) ?_
            refine T_if0 (by decide) ?_
            refine T_if0 (by decide) ?_
            refine T_of (fX12_in_J15.eq_1 ..) ?_
            refine T_if1 (by decide) ?_
            refine T_rI ?_
            refine T_if1 (by decide) ?_
            refine T_of (fX12_told_J21.eq_1 ..) ?_
            refine T_if1 (by decide +kernel) ?_
            refine T_bI ?_
            refine T_of (fX12_bad.eq_1 ..) ?_
            refine T_if1 (by decide) ?_
            refine T_of (fX12_bad_J26.eq_1 ..) ?_
            refine T_if1 (by decide +kernel) ?_
            refine T_let 0 ((z_up_k (by decide)).trans ((z_up_k (by decide)).trans (by decide +kernel))) ?_
            refine T_if1 (by decide) ?_
            refine T_of (fX12_bad_J38.eq_1 ..) ?_
            refine T_if1 (by decide) ?_
            refine T_rI ?_
            refine T_if1 (by decide) ?_
            refine T_if1 (by decide +kernel) ?_
            refine T_bN ?_
            refine T_of (fX12_laysAll.eq_1 ..) ?_
            refine T_if1 (by decide +kernel) ?_
            refine T_bN ?_
            refine T_of (fX12_freshens.eq_1 ..) ?_
            refine T_if1 (by decide +kernel) ?_
            refine T_let 0 ((z_up_k (by decide)).trans ((z_up_k (by decide)).trans (by decide +kernel))) ?_
            refine T_if1 (by decide) ?_
            refine T_of (fX12_freshens_L10.eq_2 ..) ?_
            refine T_if1 (by decide +kernel) ?_
            refine T_let 0 ((z_up_k (by decide)).trans ((z_up_k (by decide)).trans (by decide +kernel))) ?_
            refine T_if1 (by decide) ?_
            refine T_if1 (by decide +kernel) ?_
            refine T_bN ?_
            refine T_of (fX12_laysPairs.eq_1 ..) ?_
            refine T_if1 (by decide +kernel) ?_
            refine T_up0 ((z_up_k (by decide)).trans ((z_up_k (by decide)).trans (by decide +kernel))) ?_
            refine T_if1 (by decide +kernel) ?_
            refine T_up0 ((z_up_k (by decide)).trans ((z_up_k (by decide)).trans (by decide +kernel))) ?_
            refine T_of (fX12_laysPairs_L14.eq_2 ..) ?_
            refine T_if1 (by decide +kernel) ?_
            refine T_let 0 ((z_up_k (by decide)).trans ((z_up_k (by decide)).trans (by decide +kernel))) ?_
            refine T_if1 (by decide) ?_
            refine T_rN ?_
            refine T_if1 (by decide +kernel) ?_
            refine T_up ?_
            refine T_if1 (by decide +kernel) ?_
            refine T_up0 ((z_up_j (by decide)).trans ((z_up_k (by decide)).trans ((z_up_k (by decide)).trans (by decide +kernel)))) ?_
            refine T_rN ?_
            refine T_if1 (by decide +kernel) ?_
            refine T_let 0 ((z_up_j (by decide)).trans ((z_up_k (by decide)).trans ((z_up_k (by decide)).trans (by decide +kernel)))) ?_
            refine T_if1 (by decide) ?_
            refine T_if1 (by decide +kernel) ?_
            refine T_let 312 (by decide +kernel) ?_
            refine T_if1 (by decide +kernel) ?_
            refine T_let 120 ((z_up_k (by decide)).trans ((z_up_k (by decide)).trans ((z_up_k (by decide)).trans (by decide +kernel)))) ?_
            refine T_if1 (by decide +kernel) ?_
            refine T_let 312 (by decide +kernel) ?_
            refine T_if1 (by decide +kernel) ?_
            refine T_let 0 ((z_up_k (by decide)).trans ((z_up_k (by decide)).trans ((z_up_k (by decide)).trans (by decide +kernel)))) ?_
            refine T_if1 (by decide +kernel) ?_
            refine T_bI ?_
            refine T_of (fX12_breaks.eq_1 ..) ?_
            refine T_if1 (by decide) ?_
            refine T_of (fX12_breaks_L15.eq_2 ..) ?_
            refine T_if1 (by decide +kernel) ?_
            refine T_let 0 ((z_up_j (by decide)).trans ((z_up_k (by decide)).trans ((z_up_k (by decide)).trans (by decide +kernel)))) ?_
            refine T_if1 (by decide) ?_
            refine T_if1 (by decide +kernel) ?_
            refine T_let 3438 (by decide +kernel) ?_
            refine T_if1 (by decide +kernel) ?_
            refine T_let 0 ((z_up_j (by decide)).trans ((z_up_k (by decide)).trans ((z_up_k (by decide)).trans (by decide +kernel)))) ?_
            refine T_if1 (by decide +kernel) ?_
            refine T_up0 ((z_up_k (by decide)).trans ((z_up_k (by decide)).trans ((z_up_k (by decide)).trans (by decide +kernel)))) ?_
            refine T_rI ?_
            refine T_if1 (by decide +kernel) ?_
            refine T_up0 ((z_up_j (by decide)).trans ((z_up_k (by decide)).trans ((z_up_k (by decide)).trans (by decide +kernel)))) ?_
            refine T_if1 (by decide +kernel) ?_
            refine T_up0 ((z_up_j (by decide)).trans ((z_up_k (by decide)).trans ((z_up_k (by decide)).trans (by decide +kernel)))) ?_
            refine T_of (fX12_laysAll_L39.eq_2 ..) ?_
            refine T_if1 (by decide +kernel) ?_
            refine T_let 0 ((z_up_j (by decide)).trans ((z_up_k (by decide)).trans ((z_up_k (by decide)).trans (by decide +kernel)))) ?_
            refine T_if1 (by decide) ?_
            refine T_if1 (by decide +kernel) ?_
            refine T_up ?_
            refine T_rN ?_
            refine T_if0 (by decide) ?_
            refine T_if0 (by decide) ?_
            refine T_if1 (by decide) ?_
            refine T_if1 (by decide +kernel) ?_
            refine T_bI ?_
            refine T_of (fX12_groupsOf.eq_1 ..) ?_
            refine T_if1 (by decide +kernel) ?_
            refine T_let 315 (by decide +kernel) ?_
            refine T_if1 (by decide +kernel) ?_
            refine T_let 316 (by decide +kernel) ?_
            refine T_if1 (by decide +kernel) ?_
            refine T_let 0 ((z_up_k (by decide)).trans ((z_up_k (by decide)).trans ((z_up_k (by decide)).trans ((z_up_k (by decide)).trans (by decide +kernel))))) ?_
            refine T_if0 (by decide) ?_
            refine T_of (fX12_groupsOf_J34.eq_1 ..) ?_
            refine T_rI ?_
            refine T_rL ?_
            refine T_if1 (by decide +kernel) ?_
            refine T_bI ?_
            refine T_of (fX12_thrown.eq_1 ..) ?_
            refine T_if1 (by decide +kernel) ?_
            refine T_let 0 ((z_up_j (by decide)).trans ((z_up_j (by decide)).trans ((z_up_k (by decide)).trans ((z_up_k (by decide)).trans (by decide +kernel))))) ?_
            refine T_rI ?_
            refine T_if1 (by decide) ?_
            refine T_if0 (by decide) ?_
            refine T_if1 (by decide +kernel) ?_
            refine T_let 0 ((z_up_k (by decide)).trans ((z_up_k (by decide)).trans ((z_up_k (by decide)).trans ((z_up_k (by decide)).trans (by decide +kernel))))) ?_
            refine T_let 0 (by decide +kernel) ?_
            refine T_if1 (by decide) ?_
            refine T_of (fL_law_J587.eq_1 ..) ?_
            refine T_of (fL_law_J2073.eq_1 ..) ?_
            refine T_let 6 (by decide +kernel) ?_
            exact hr _
          · refine T_ite (fun h6 => ?_) (fun h6 => ?_)
            · subst h6
              refine T_if1 (by decide +kernel) ?_
              refine T_let 240 (by decide +kernel) ?_
              refine T_if1 (by decide +kernel) ?_
              refine T_let 0 ((z_up_k (by decide)).trans ((z_up_k (by decide)).trans (by decide +kernel))) ?_
              refine T_rcL ?_
              refine T_if1 (by decide +kernel) ?_
              refine T_up0 ((z_up_k (by decide)).trans ((z_up_k (by decide)).trans (by decide +kernel))) ?_
              refine T_rI ?_
              refine T_let 1 (by decide +kernel) ?_
              refine T_if1 (by decide) ?_
              refine T_let 3 q1 ?_
              refine T_if1 (by decide +kernel) ?_
              refine T_bL ?_
              refine T_of (fX12_told.eq_1 ..) ?_
              refine T_if1 (by decide +kernel) ?_
              refine T_up0 ((z_up_k (by decide)).trans ((z_up_k (by decide)).trans (by decide +kernel))) ?_
              refine T_bI ?_
              refine T_of (fX12_in.eq_1 ..) ?_
              refine T_if0 (by decide) ?_
              refine T_if0 (by decide) ?_
              refine T_of (fX12_in_J15.eq_1 ..) ?_
              refine T_if1 (by decide) ?_
              refine T_rI ?_
              refine T_if1 (by decide) ?_
              refine T_of (fX12_told_J21.eq_1 ..) ?_
              refine T_if1 (by decide +kernel) ?_
              refine T_bI ?_
              refine T_of (fX12_bad.eq_1 ..) ?_
              refine T_if1 (by decide) ?_
              refine T_of (fX12_bad_J26.eq_1 ..) ?_
              refine T_if1 (by decide +kernel) ?_
              refine T_let 0 ((z_up_k (by decide)).trans ((z_up_k (by decide)).trans (by decide +kernel))) ?_
              refine T_if1 (by decide) ?_
              refine T_of (fX12_bad_J38.eq_1 ..) ?_
              refine T_if1 (by decide) ?_
              refine T_rI ?_
              refine T_if1 (by decide) ?_
              refine T_if1 (by decide +kernel) ?_
              refine T_bN ?_
              refine T_of (fX12_laysAll.eq_1 ..) ?_
              refine T_if1 (by decide +kernel) ?_
              refine T_bN ?_
              refine T_of (fX12_freshens.eq_1 ..) ?_
              refine T_if1 (by decide +kernel) ?_
              refine T_let 0 ((z_up_k (by decide)).trans ((z_up_k (by decide)).trans (by decide +kernel))) ?_
              refine T_if1 (by decide) ?_
              refine T_of (fX12_freshens_L10.eq_2 ..) ?_
              refine T_if1 (by decide +kernel) ?_
              refine T_let 0 ((z_up_k (by decide)).trans ((z_up_k (by decide)).trans (by decide +kernel))) ?_
              refine T_if1 (by decide) ?_
              refine T_if1 (by decide +kernel) ?_
              refine T_bN ?_
              refine T_of (fX12_laysPairs.eq_1 ..) ?_
              refine T_if1 (by decide +kernel) ?_
              refine T_up0 ((z_up_k (by decide)).trans ((z_up_k (by decide)).trans (by decide +kernel))) ?_
              refine T_if1 (by decide +kernel) ?_
              refine T_up0 ((z_up_k (by decide)).trans ((z_up_k (by decide)).trans (by decide +kernel))) ?_
              refine T_of (fX12_laysPairs_L14.eq_2 ..) ?_
              refine T_if1 (by decide +kernel) ?_
              refine T_let 0 ((z_up_k (by decide)).trans ((z_up_k (by decide)).trans (by decide +kernel))) ?_
              refine T_if1 (by decide) ?_
              refine T_rN ?_
              refine T_if1 (by decide +kernel) ?_
              refine T_up ?_
              refine T_if1 (by decide +kernel) ?_
              refine T_up0 ((z_up_j (by decide)).trans ((z_up_k (by decide)).trans ((z_up_k (by decide)).trans (by decide +kernel)))) ?_
              refine T_rN ?_
              refine T_if1 (by decide +kernel) ?_
              refine T_let 0 ((z_up_j (by decide)).trans ((z_up_k (by decide)).trans ((z_up_k (by decide)).trans (by decide +kernel)))) ?_
              refine T_if1 (by decide) ?_
              refine T_if1 (by decide +kernel) ?_
              refine T_let 312 (by decide +kernel) ?_
              refine T_if1 (by decide +kernel) ?_
              refine T_let 120 ((z_up_k (by decide)).trans ((z_up_k (by decide)).trans ((z_up_k (by decide)).trans (by decide +kernel)))) ?_
              refine T_if1 (by decide +kernel) ?_
              refine T_let 312 (by decide +kernel) ?_
              refine T_if1 (by decide +kernel) ?_
              refine T_let 0 ((z_up_k (by decide)).trans ((z_up_k (by decide)).trans ((z_up_k (by decide)).trans (by decide +kernel)))) ?_
              refine T_if1 (by decide +kernel) ?_
              refine T_bI ?_
              refine T_of (fX12_breaks.eq_1 ..) ?_
              refine T_if1 (by decide) ?_
              refine T_of (fX12_breaks_L15.eq_2 ..) ?_
              refine T_if1 (by decide +kernel) ?_
              refine T_let 0 ((z_up_j (by decide)).trans ((z_up_k (by decide)).trans ((z_up_k (by decide)).trans (by decide +kernel)))) ?_
              refine T_if1 (by decide) ?_
              refine T_if1 (by decide +kernel) ?_
              refine T_let 3438 (by decide +kernel) ?_
              refine T_if1 (by decide +kernel) ?_
              refine T_let 0 ((z_up_j (by decide)).trans ((z_up_k (by decide)).trans ((z_up_k (by decide)).trans (by decide +kernel)))) ?_
              refine T_if1 (by decide +kernel) ?_
              refine T_up0 ((z_up_k (by decide)).trans ((z_up_k (by decide)).trans ((z_up_k (by decide)).trans (by decide +kernel)))) ?_
              refine T_rI ?_
              refine T_if1 (by decide +kernel) ?_
              refine T_up0 ((z_up_j (by decide)).trans ((z_up_k (by decide)).trans ((z_up_k (by decide)).trans (by decide +kernel)))) ?_
              refine T_if1 (by decide +kernel) ?_
              refine T_up0 ((z_up_j (by decide)).trans ((z_up_k (by decide)).trans ((z_up_k (by decide)).trans (by decide +kernel)))) ?_
              refine T_of (fX12_laysAll_L39.eq_2 ..) ?_
              refine T_if1 (by decide +kernel) ?_
              refine T_let 0 ((z_up_j (by decide)).trans ((z_up_k (by decide)).trans ((z_up_k (by decide)).trans (by decide +kernel)))) ?_
              refine T_if1 (by decide) ?_
              refine T_if1 (by decide +kernel) ?_
              refine T_up ?_
              refine T_rN ?_
              refine T_if0 (by decide) ?_
              refine T_if0 (by decide) ?_
              refine T_if0 (by decide) ?_
              refine T_if1 (by decide) ?_
              refine T_if1 (by decide +kernel) ?_
              refine T_let 0 ((z_up_j (by decide)).trans ((z_up_j (by decide)).trans ((z_up_k (by decide)).trans ((z_up_k (by decide)).trans (by decide +kernel))))) ?_
              refine T_rL ?_
              refine T_if1 (by decide +kernel) ?_
              refine T_bI ?_
              refine T_of (fX12_thrown.eq_1 ..) ?_
              refine T_if1 (by decide +kernel) ?_
              refine T_let 0 ((z_up_j (by decide)).trans ((z_up_j (by decide)).trans ((z_up_k (by decide)).trans ((z_up_k (by decide)).trans (by decide +kernel))))) ?_
              refine T_rI ?_
              refine T_if1 (by decide) ?_
              refine T_if0 (by decide) ?_
              refine T_if1 (by decide +kernel) ?_
              refine T_let 0 ((z_up_k (by decide)).trans ((z_up_k (by decide)).trans ((z_up_k (by decide)).trans ((z_up_k (by decide)).trans (by decide +kernel))))) ?_
              refine T_let 0 (by decide +kernel) ?_
              refine T_if1 (by decide) ?_
              refine T_of (fL_law_J587.eq_1 ..) ?_
              refine T_of (fL_law_J2073.eq_1 ..) ?_
              refine T_let 6 (by decide +kernel) ?_
              exact hr _
            · refine T_ite (fun h7 => ?_) (fun h7 => ?_)
              · subst h7
                refine T_if1 (by decide +kernel) ?_
                refine T_let 258 (by decide +kernel) ?_
                refine T_if1 (by decide +kernel) ?_
                refine T_bI ?_
                refine T_of (fX3_longest.eq_1 ..) ?_
                refine T_of (fX3_longest_L4.eq_2 ..) ?_
                refine T_if1 (by decide +kernel) ?_
                refine T_let 240 (by decide +kernel) ?_
                refine T_if1 (by decide +kernel) ?_
                refine T_let 0 ((z_up_k (by decide)).trans ((z_up_k (by decide)).trans (by decide +kernel))) ?_
                refine T_if1 (by decide) ?_
                refine T_rI ?_
                refine T_rcL ?_
                refine T_if1 (by decide +kernel) ?_
                refine T_up0 ((z_up_k (by decide)).trans ((z_up_k (by decide)).trans (by decide +kernel))) ?_
                refine T_rI ?_
                refine T_let 1 (by decide +kernel) ?_
                refine T_if1 (by decide) ?_
                refine T_let 4 q1 ?_
                refine T_if1 (by decide +kernel) ?_
                refine T_bL ?_
                refine T_of (fX12_told.eq_1 ..) ?_
                refine T_if1 (by decide +kernel) ?_
                refine T_up0 ((z_up_k (by decide)).trans ((z_up_k (by decide)).trans (by decide +kernel))) ?_
                refine T_bI ?_
                refine T_of (fX12_in.eq_1 ..) ?_
                refine T_if0 (by decide) ?_
                refine T_if0 (by decide) ?_
                refine T_of (fX12_in_J15.eq_1 ..) ?_
                refine T_if1 (by decide) ?_
                refine T_rI ?_
                refine T_if1 (by decide) ?_
                refine T_of (fX12_told_J21.eq_1 ..) ?_
                refine T_if1 (by decide +kernel) ?_
                refine T_bI ?_
                refine T_of (fX12_bad.eq_1 ..) ?_
                refine T_if1 (by decide) ?_
                refine T_of (fX12_bad_J26.eq_1 ..) ?_
                refine T_if1 (by decide +kernel) ?_
                refine T_let 0 ((z_up_k (by decide)).trans ((z_up_k (by decide)).trans (by decide +kernel))) ?_
                refine T_if1 (by decide) ?_
                refine T_of (fX12_bad_J38.eq_1 ..) ?_
                refine T_if1 (by decide) ?_
                refine T_rI ?_
                refine T_if1 (by decide) ?_
                refine T_if1 (by decide +kernel) ?_
                refine T_bN ?_
                refine T_of (fX12_laysAll.eq_1 ..) ?_
                refine T_if1 (by decide +kernel) ?_
                refine T_bN ?_
                refine T_of (fX12_freshens.eq_1 ..) ?_
                refine T_if1 (by decide +kernel) ?_
                refine T_let 0 ((z_up_k (by decide)).trans ((z_up_k (by decide)).trans (by decide +kernel))) ?_
                refine T_if1 (by decide) ?_
                refine T_of (fX12_freshens_L10.eq_2 ..) ?_
                refine T_if1 (by decide +kernel) ?_
                refine T_let 0 ((z_up_k (by decide)).trans ((z_up_k (by decide)).trans (by decide +kernel))) ?_
                refine T_if1 (by decide) ?_
                refine T_if1 (by decide +kernel) ?_
                refine T_bN ?_
                refine T_of (fX12_laysPairs.eq_1 ..) ?_
                refine T_if1 (by decide +kernel) ?_
                refine T_up0 ((z_up_k (by decide)).trans ((z_up_k (by decide)).trans (by decide +kernel))) ?_
                refine T_if1 (by decide +kernel) ?_
                refine T_up0 ((z_up_k (by decide)).trans ((z_up_k (by decide)).trans (by decide +kernel))) ?_
                refine T_of (fX12_laysPairs_L14.eq_2 ..) ?_
                refine T_if1 (by decide +kernel) ?_
                refine T_let 0 ((z_up_k (by decide)).trans ((z_up_k (by decide)).trans (by decide +kernel))) ?_
                refine T_if1 (by decide) ?_
                refine T_rN ?_
                refine T_if1 (by decide +kernel) ?_
                refine T_up ?_
                refine T_if1 (by decide +kernel) ?_
                refine T_up0 ((z_up_j (by decide)).trans ((z_up_k (by decide)).trans ((z_up_k (by decide)).trans (by decide +kernel)))) ?_
                refine T_rN ?_
                refine T_if1 (by decide +kernel) ?_
                refine T_let 0 ((z_up_j (by decide)).trans ((z_up_k (by decide)).trans ((z_up_k (by decide)).trans (by decide +kernel)))) ?_
                refine T_if1 (by decide) ?_
                refine T_if1 (by decide +kernel) ?_
                refine T_let 312 (by decide +kernel) ?_
                refine T_if1 (by decide +kernel) ?_
                refine T_let 120 ((z_up_k (by decide)).trans ((z_up_k (by decide)).trans ((z_up_k (by decide)).trans (by decide +kernel)))) ?_
                refine T_if1 (by decide +kernel) ?_
                refine T_let 312 (by decide +kernel) ?_
                refine T_if1 (by decide +kernel) ?_
                refine T_let 0 ((z_up_k (by decide)).trans ((z_up_k (by decide)).trans ((z_up_k (by decide)).trans (by decide +kernel)))) ?_
                refine T_if1 (by decide +kernel) ?_
                refine T_bI ?_
                refine T_of (fX12_breaks.eq_1 ..) ?_
                refine T_if1 (by decide) ?_
                refine T_of (fX12_breaks_L15.eq_2 ..) ?_
                refine T_if1 (by decide +kernel) ?_
                refine T_let 0 ((z_up_j (by decide)).trans ((z_up_k (by decide)).trans ((z_up_k (by decide)).trans (by decide +kernel)))) ?_
                refine T_if1 (by decide) ?_
                refine T_if1 (by decide +kernel) ?_
                refine T_let 3438 (by decide +kernel) ?_
                refine T_if1 (by decide +kernel) ?_
                refine T_let 0 ((z_up_j (by decide)).trans ((z_up_k (by decide)).trans ((z_up_k (by decide)).trans (by decide +kernel)))) ?_
                refine T_if1 (by decide +kernel) ?_
                refine T_up0 ((z_up_k (by decide)).trans ((z_up_k (by decide)).trans ((z_up_k (by decide)).trans (by decide +kernel)))) ?_
                refine T_rI ?_
                refine T_if1 (by decide +kernel) ?_
                refine T_up0 ((z_up_j (by decide)).trans ((z_up_k (by decide)).trans ((z_up_k (by decide)).trans (by decide +kernel)))) ?_
                refine T_if1 (by decide +kernel) ?_
                refine T_up0 ((z_up_j (by decide)).trans ((z_up_k (by decide)).trans ((z_up_k (by decide)).trans (by decide +kernel)))) ?_
                refine T_of (fX12_laysAll_L39.eq_2 ..) ?_
                refine T_if1 (by decide +kernel) ?_
                refine T_let 0 ((z_up_j (by decide)).trans ((z_up_k (by decide)).trans ((z_up_k (by decide)).trans (by decide +kernel)))) ?_
                refine T_if1 (by decide) ?_
                refine T_if1 (by decide +kernel) ?_
                refine T_up ?_
                refine T_rN ?_
                refine T_if0 (by decide) ?_
                refine T_if0 (by decide) ?_
                refine T_if0 (by decide) ?_
                refine T_if0 (by decide) ?_
                refine T_if1 (by decide) ?_
                refine T_if1 (by decide +kernel) ?_
                refine T_bI ?_
                refine T_of (fX12_longest.eq_1 ..) ?_
                refine T_of (fX12_longest_L4.eq_2 ..) ?_
                refine T_if1 (by decide +kernel) ?_
                refine T_let 0 ((z_up_j (by decide)).trans ((z_up_j (by decide)).trans ((z_up_k (by decide)).trans ((z_up_k (by decide)).trans (by decide +kernel))))) ?_
                refine T_if1 (by decide) ?_
                refine T_rI ?_
                refine T_rL ?_
                refine T_if1 (by decide +kernel) ?_
                refine T_bI ?_
                refine T_of (fX12_thrown.eq_1 ..) ?_
                refine T_if1 (by decide +kernel) ?_
                refine T_let 0 ((z_up_j (by decide)).trans ((z_up_j (by decide)).trans ((z_up_k (by decide)).trans ((z_up_k (by decide)).trans (by decide +kernel))))) ?_
                refine T_rI ?_
                refine T_if1 (by decide) ?_
                refine T_if0 (by decide) ?_
                refine T_if1 (by decide +kernel) ?_
                refine T_let 0 ((z_up_k (by decide)).trans ((z_up_k (by decide)).trans ((z_up_k (by decide)).trans ((z_up_k (by decide)).trans (by decide +kernel))))) ?_
                refine T_let 0 (by decide +kernel) ?_
                refine T_if1 (by decide) ?_
                refine T_of (fL_law_J587.eq_1 ..) ?_
                refine T_of (fL_law_J2073.eq_1 ..) ?_
                refine T_let 6 (by decide +kernel) ?_
                exact hr _
              · refine T_ite (fun h8 => ?_) (fun h8 => ?_)
                · subst h8
                  refine T_if1 (by decide +kernel) ?_
                  refine T_let 240 (by decide +kernel) ?_
                  refine T_if1 (by decide +kernel) ?_
                  refine T_let 2 (by decide +kernel) ?_
                  refine T_if1 (by decide +kernel) ?_
                  refine T_bI ?_
                  refine T_of (fX7_get.eq_1 ..) ?_
                  refine T_if0 (by decide) ?_
                  refine T_if1 (by decide +kernel) ?_
                  refine T_let 3 (by decide +kernel) ?_
                  refine T_if1 (by decide +kernel) ?_
                  refine T_let 9 (by decide +kernel) ?_
                  refine T_if0 (by decide) ?_
                  refine T_if1 (by decide +kernel) ?_
                  refine T_let 3 (by decide +kernel) ?_
                  refine T_if1 (by decide +kernel) ?_
                  refine T_let 120 ((z_up_k (by decide)).trans ((z_up_k (by decide)).trans (by decide +kernel))) ?_
                  refine T_of (fX7_get_J23.eq_1 ..) ?_
                  refine T_rI ?_
                  refine T_if1 (by decide +kernel) ?_
                  refine T_bL ?_
                  refine T_of (fX1_costs.eq_1 ..) ?_
                  refine T_of (fX1_costs_L5.eq_2 ..) ?_
                  refine T_if1 (by decide +kernel) ?_
                  refine T_let 0 ((z_up_k (by decide)).trans ((z_up_k (by decide)).trans (by decide +kernel))) ?_
                  refine T_if1 (by decide) ?_
                  refine T_rL ?_
                  refine T_rcL ?_
                  refine T_if1 (by decide +kernel) ?_
                  refine T_up0 ((z_up_k (by decide)).trans ((z_up_k (by decide)).trans (by decide +kernel))) ?_
                  refine T_rI ?_
                  refine T_let 1 (by decide +kernel) ?_
                  refine T_if1 (by decide) ?_
                  refine T_let 5 q1 ?_
                  refine T_if1 (by decide +kernel) ?_
                  refine T_bL ?_
                  refine T_of (fX12_told.eq_1 ..) ?_
                  refine T_if1 (by decide +kernel) ?_
                  refine T_up0 ((z_up_k (by decide)).trans ((z_up_k (by decide)).trans (by decide +kernel))) ?_
                  refine T_bI ?_
                  refine T_of (fX12_in.eq_1 ..) ?_
                  refine T_if0 (by decide) ?_
                  refine T_if0 (by decide) ?_
                  refine T_of (fX12_in_J15.eq_1 ..) ?_
                  refine T_if1 (by decide) ?_
                  refine T_rI ?_
                  refine T_if1 (by decide) ?_
                  refine T_of (fX12_told_J21.eq_1 ..) ?_
                  refine T_if1 (by decide +kernel) ?_
                  refine T_bI ?_
                  refine T_of (fX12_bad.eq_1 ..) ?_
                  refine T_if1 (by decide) ?_
                  refine T_of (fX12_bad_J26.eq_1 ..) ?_
                  refine T_if1 (by decide +kernel) ?_
                  refine T_let 0 ((z_up_k (by decide)).trans ((z_up_k (by decide)).trans (by decide +kernel))) ?_
                  refine T_if1 (by decide) ?_
                  refine T_of (fX12_bad_J38.eq_1 ..) ?_
                  refine T_if1 (by decide) ?_
                  refine T_rI ?_
                  refine T_if1 (by decide) ?_
                  refine T_if1 (by decide +kernel) ?_
                  refine T_bN ?_
                  refine T_of (fX12_laysAll.eq_1 ..) ?_
                  refine T_if1 (by decide +kernel) ?_
                  refine T_bN ?_
                  refine T_of (fX12_freshens.eq_1 ..) ?_
                  refine T_if1 (by decide +kernel) ?_
                  refine T_let 0 ((z_up_k (by decide)).trans ((z_up_k (by decide)).trans (by decide +kernel))) ?_
                  refine T_if1 (by decide) ?_
                  refine T_of (fX12_freshens_L10.eq_2 ..) ?_
                  refine T_if1 (by decide +kernel) ?_
                  refine T_let 0 ((z_up_k (by decide)).trans ((z_up_k (by decide)).trans (by decide +kernel))) ?_
                  refine T_if1 (by decide) ?_
                  refine T_if1 (by decide +kernel) ?_
                  refine T_bN ?_
                  refine T_of (fX12_laysPairs.eq_1 ..) ?_
                  refine T_if1 (by decide +kernel) ?_
                  refine T_up0 ((z_up_k (by decide)).trans ((z_up_k (by decide)).trans (by decide +kernel))) ?_
                  refine T_if1 (by decide +kernel) ?_
                  refine T_up0 ((z_up_k (by decide)).trans ((z_up_k (by decide)).trans (by decide +kernel))) ?_
                  refine T_of (fX12_laysPairs_L14.eq_2 ..) ?_
                  refine T_if1 (by decide +kernel) ?_
                  refine T_let 0 ((z_up_k (by decide)).trans ((z_up_k (by decide)).trans (by decide +kernel))) ?_
                  refine T_if1 (by decide) ?_
                  refine T_rN ?_
                  refine T_if1 (by decide +kernel) ?_
                  refine T_up ?_
                  refine T_if1 (by decide +kernel) ?_
                  refine T_up0 ((z_up_j (by decide)).trans ((z_up_k (by decide)).trans ((z_up_k (by decide)).trans (by decide +kernel)))) ?_
                  refine T_rN ?_
                  refine T_if1 (by decide +kernel) ?_
                  refine T_let 0 ((z_up_j (by decide)).trans ((z_up_k (by decide)).trans ((z_up_k (by decide)).trans (by decide +kernel)))) ?_
                  refine T_if1 (by decide) ?_
                  refine T_if1 (by decide +kernel) ?_
                  refine T_let 312 (by decide +kernel) ?_
                  refine T_if1 (by decide +kernel) ?_
                  refine T_let 120 ((z_up_k (by decide)).trans ((z_up_k (by decide)).trans ((z_up_k (by decide)).trans (by decide +kernel)))) ?_
                  refine T_if1 (by decide +kernel) ?_
                  refine T_let 312 (by decide +kernel) ?_
                  refine T_if1 (by decide +kernel) ?_
                  refine T_let 0 ((z_up_k (by decide)).trans ((z_up_k (by decide)).trans ((z_up_k (by decide)).trans (by decide +kernel)))) ?_
                  refine T_if1 (by decide +kernel) ?_
                  refine T_bI ?_
                  refine T_of (fX12_breaks.eq_1 ..) ?_
                  refine T_if1 (by decide) ?_
                  refine T_of (fX12_breaks_L15.eq_2 ..) ?_
                  refine T_if1 (by decide +kernel) ?_
                  refine T_let 0 ((z_up_j (by decide)).trans ((z_up_k (by decide)).trans ((z_up_k (by decide)).trans (by decide +kernel)))) ?_
                  refine T_if1 (by decide) ?_
                  refine T_if1 (by decide +kernel) ?_
                  refine T_let 3438 (by decide +kernel) ?_
                  refine T_if1 (by decide +kernel) ?_
                  refine T_let 0 ((z_up_j (by decide)).trans ((z_up_k (by decide)).trans ((z_up_k (by decide)).trans (by decide +kernel)))) ?_
                  refine T_if1 (by decide +kernel) ?_
                  refine T_up0 ((z_up_k (by decide)).trans ((z_up_k (by decide)).trans ((z_up_k (by decide)).trans (by decide +kernel)))) ?_
                  refine T_rI ?_
                  refine T_if1 (by decide +kernel) ?_
                  refine T_up0 ((z_up_j (by decide)).trans ((z_up_k (by decide)).trans ((z_up_k (by decide)).trans (by decide +kernel)))) ?_
                  refine T_if1 (by decide +kernel) ?_
                  refine T_up0 ((z_up_j (by decide)).trans ((z_up_k (by decide)).trans ((z_up_k (by decide)).trans (by decide +kernel)))) ?_
                  refine T_of (fX12_laysAll_L39.eq_2 ..) ?_
                  refine T_if1 (by decide +kernel) ?_
                  refine T_let 0 ((z_up_j (by decide)).trans ((z_up_k (by decide)).trans ((z_up_k (by decide)).trans (by decide +kernel)))) ?_
                  refine T_if1 (by decide) ?_
                  refine T_if1 (by decide +kernel) ?_
                  refine T_up ?_
                  refine T_rN ?_
                  refine T_if0 (by decide) ?_
                  refine T_if0 (by decide) ?_
                  refine T_if0 (by decide) ?_
                  refine T_if0 (by decide) ?_
                  refine T_if0 (by decide) ?_
                  refine T_if1 (by decide) ?_
                  refine T_if1 (by decide +kernel) ?_
                  refine T_bL ?_
                  refine T_of (fX12_costs.eq_1 ..) ?_
                  refine T_of (fX12_costs_L4.eq_2 ..) ?_
                  refine T_if1 (by decide +kernel) ?_
                  refine T_let 0 ((z_up_j (by decide)).trans ((z_up_j (by decide)).trans ((z_up_k (by decide)).trans ((z_up_k (by decide)).trans (by decide +kernel))))) ?_
                  refine T_if1 (by decide) ?_
                  refine T_rL ?_
                  refine T_rL ?_
                  refine T_if1 (by decide +kernel) ?_
                  refine T_bI ?_
                  refine T_of (fX12_thrown.eq_1 ..) ?_
                  refine T_if1 (by decide +kernel) ?_
                  refine T_let 0 ((z_up_j (by decide)).trans ((z_up_j (by decide)).trans ((z_up_k (by decide)).trans ((z_up_k (by decide)).trans (by decide +kernel))))) ?_
                  refine T_rI ?_
                  refine T_if1 (by decide) ?_
                  refine T_if0 (by decide) ?_
                  refine T_if1 (by decide +kernel) ?_
                  refine T_let 0 ((z_up_k (by decide)).trans ((z_up_k (by decide)).trans ((z_up_k (by decide)).trans ((z_up_k (by decide)).trans (by decide +kernel))))) ?_
                  refine T_let 0 (by decide +kernel) ?_
                  refine T_if1 (by decide) ?_
                  refine T_of (fL_law_J587.eq_1 ..) ?_
                  refine T_of (fL_law_J2073.eq_1 ..) ?_
                  refine T_let 6 (by decide +kernel) ?_
                  exact hr _
                · refine T_ite (fun h9 => ?_) (fun h9 => ?_)
                  · subst h9
                    refine T_if1 (by decide +kernel) ?_
                    refine T_let 2 (by decide +kernel) ?_
                    refine T_let 0 (by decide +kernel) ?_
                    refine T_if1 (by decide +kernel) ?_
                    refine T_bI ?_
                    refine T_of (fX7_get.eq_1 ..) ?_
                    refine T_if0 (by decide) ?_
                    refine T_if1 (by decide +kernel) ?_
                    refine T_let 3 (by decide +kernel) ?_
                    refine T_if1 (by decide +kernel) ?_
                    refine T_let 9 (by decide +kernel) ?_
                    refine T_if0 (by decide) ?_
                    refine T_if1 (by decide +kernel) ?_
                    refine T_let 3 (by decide +kernel) ?_
                    refine T_if1 (by decide +kernel) ?_
                    refine T_let 120 ((z_up_k (by decide)).trans ((z_up_k (by decide)).trans (by decide +kernel))) ?_
                    refine T_of (fX7_get_J23.eq_1 ..) ?_
                    refine T_rI ?_
                    refine T_rcL ?_
                    refine T_if1 (by decide +kernel) ?_
                    refine T_up ?_
                    refine T_rI ?_
                    refine T_let 1 (by decide +kernel) ?_
                    refine T_if1 (by decide) ?_
                    refine T_let 6 q1 ?_
                    refine T_if1 (by decide +kernel) ?_
                    refine T_bL ?_
                    refine T_of (fX12_told.eq_1 ..) ?_
                    refine T_if1 (by decide +kernel) ?_
                    refine T_up0 ((z_up_k (by decide)).trans ((z_up_k (by decide)).trans ((z_up_k (by decide)).trans (by decide +kernel)))) ?_
                    refine T_bI ?_
                    refine T_of (fX12_in.eq_1 ..) ?_
                    refine T_if0 (by decide) ?_
                    refine T_if0 (by decide) ?_
                    refine T_of (fX12_in_J15.eq_1 ..) ?_
                    refine T_if1 (by decide) ?_
                    refine T_rI ?_
                    refine T_if1 (by decide) ?_
                    refine T_of (fX12_told_J21.eq_1 ..) ?_
                    refine T_if1 (by decide +kernel) ?_
                    refine T_bI ?_
                    refine T_of (fX12_bad.eq_1 ..) ?_
                    refine T_if1 (by decide) ?_
                    refine T_of (fX12_bad_J26.eq_1 ..) ?_
                    refine T_if1 (by decide +kernel) ?_
                    refine T_let 0 ((z_up_k (by decide)).trans ((z_up_k (by decide)).trans ((z_up_k (by decide)).trans (by decide +kernel)))) ?_
                    refine T_if1 (by decide) ?_
                    refine T_of (fX12_bad_J38.eq_1 ..) ?_
                    refine T_if1 (by decide) ?_
                    refine T_rI ?_
                    refine T_if1 (by decide) ?_
                    refine T_if1 (by decide +kernel) ?_
                    refine T_bN ?_
                    refine T_of (fX12_laysAll.eq_1 ..) ?_
                    refine T_if1 (by decide +kernel) ?_
                    refine T_bN ?_
                    refine T_of (fX12_freshens.eq_1 ..) ?_
                    refine T_if1 (by decide +kernel) ?_
                    refine T_let 0 ((z_up_k (by decide)).trans ((z_up_k (by decide)).trans ((z_up_k (by decide)).trans (by decide +kernel)))) ?_
                    refine T_if1 (by decide) ?_
                    refine T_of (fX12_freshens_L10.eq_2 ..) ?_
                    refine T_if1 (by decide +kernel) ?_
                    refine T_let 0 ((z_up_k (by decide)).trans ((z_up_k (by decide)).trans ((z_up_k (by decide)).trans (by decide +kernel)))) ?_
                    refine T_if1 (by decide) ?_
                    refine T_if1 (by decide +kernel) ?_
                    refine T_bN ?_
                    refine T_of (fX12_laysPairs.eq_1 ..) ?_
                    refine T_if1 (by decide +kernel) ?_
                    refine T_up0 ((z_up_k (by decide)).trans ((z_up_k (by decide)).trans ((z_up_k (by decide)).trans (by decide +kernel)))) ?_
                    refine T_if1 (by decide +kernel) ?_
                    refine T_up0 ((z_up_k (by decide)).trans ((z_up_k (by decide)).trans ((z_up_k (by decide)).trans (by decide +kernel)))) ?_
                    refine T_of (fX12_laysPairs_L14.eq_2 ..) ?_
                    refine T_if1 (by decide +kernel) ?_
                    refine T_let 0 ((z_up_k (by decide)).trans ((z_up_k (by decide)).trans ((z_up_k (by decide)).trans (by decide +kernel)))) ?_
                    refine T_if1 (by decide) ?_
                    refine T_rN ?_
                    refine T_if1 (by decide +kernel) ?_
                    refine T_up ?_
                    refine T_if1 (by decide +kernel) ?_
                    refine T_up0 ((z_up_j (by decide)).trans ((z_up_k (by decide)).trans ((z_up_k (by decide)).trans ((z_up_k (by decide)).trans (by decide +kernel))))) ?_
                    refine T_rN ?_
                    refine T_if1 (by decide +kernel) ?_
                    refine T_let 0 ((z_up_j (by decide)).trans ((z_up_k (by decide)).trans ((z_up_k (by decide)).trans ((z_up_k (by decide)).trans (by decide +kernel))))) ?_
                    refine T_if1 (by decide) ?_
                    refine T_if1 (by decide +kernel) ?_
                    refine T_let 312 (by decide +kernel) ?_
                    refine T_if1 (by decide +kernel) ?_
                    refine T_let 120 ((z_up_k (by decide)).trans ((z_up_k (by decide)).trans ((z_up_k (by decide)).trans ((z_up_k (by decide)).trans (by decide +kernel))))) ?_
                    refine T_if1 (by decide +kernel) ?_
                    refine T_let 312 (by decide +kernel) ?_
                    refine T_if1 (by decide +kernel) ?_
                    refine T_let 0 ((z_up_k (by decide)).trans ((z_up_k (by decide)).trans ((z_up_k (by decide)).trans ((z_up_k (by decide)).trans (by decide +kernel))))) ?_
                    refine T_if1 (by decide +kernel) ?_
                    refine T_bI ?_
                    refine T_of (fX12_breaks.eq_1 ..) ?_
                    refine T_if1 (by decide) ?_
                    refine T_of (fX12_breaks_L15.eq_2 ..) ?_
                    refine T_if1 (by decide +kernel) ?_
                    refine T_let 0 ((z_up_j (by decide)).trans ((z_up_k (by decide)).trans ((z_up_k (by decide)).trans ((z_up_k (by decide)).trans (by decide +kernel))))) ?_
                    refine T_if1 (by decide) ?_
                    refine T_if1 (by decide +kernel) ?_
                    refine T_let 3438 (by decide +kernel) ?_
                    refine T_if1 (by decide +kernel) ?_
                    refine T_let 0 ((z_up_j (by decide)).trans ((z_up_k (by decide)).trans ((z_up_k (by decide)).trans ((z_up_k (by decide)).trans (by decide +kernel))))) ?_
                    refine T_if1 (by decide +kernel) ?_
                    refine T_up0 ((z_up_k (by decide)).trans ((z_up_k (by decide)).trans ((z_up_k (by decide)).trans ((z_up_k (by decide)).trans (by decide +kernel))))) ?_
                    refine T_rI ?_
                    refine T_if1 (by decide +kernel) ?_
                    refine T_up0 ((z_up_j (by decide)).trans ((z_up_k (by decide)).trans ((z_up_k (by decide)).trans ((z_up_k (by decide)).trans (by decide +kernel))))) ?_
                    refine T_if1 (by decide +kernel) ?_
                    refine T_up0 ((z_up_j (by decide)).trans ((z_up_k (by decide)).trans ((z_up_k (by decide)).trans ((z_up_k (by decide)).trans (by decide +kernel))))) ?_
                    refine T_of (fX12_laysAll_L39.eq_2 ..) ?_
                    refine T_if1 (by decide +kernel) ?_
                    refine T_let 0 ((z_up_j (by decide)).trans ((z_up_k (by decide)).trans ((z_up_k (by decide)).trans ((z_up_k (by decide)).trans (by decide +kernel))))) ?_
                    refine T_if1 (by decide) ?_
                    refine T_if1 (by decide +kernel) ?_
                    refine T_up ?_
                    refine T_rN ?_
                    refine T_if0 (by decide) ?_
                    refine T_if0 (by decide) ?_
                    refine T_if0 (by decide) ?_
                    refine T_if0 (by decide) ?_
                    refine T_if0 (by decide) ?_
                    refine T_if0 (by decide) ?_
                    refine T_if1 (by decide) ?_
                    refine T_if1 (by decide +kernel) ?_
                    refine T_let 312 (by decide +kernel) ?_
                    refine T_let 0 (by decide +kernel) ?_
                    refine T_if1 (by decide +kernel) ?_
                    refine T_let 120 ((z_up_k (by decide)).trans ((z_up_k (by decide)).trans ((z_up_k (by decide)).trans ((z_up_k (by decide)).trans ((z_up_k (by decide)).trans (by decide +kernel)))))) ?_
                    refine T_rL ?_
                    refine T_if1 (by decide +kernel) ?_
                    refine T_bI ?_
                    refine T_of (fX12_thrown.eq_1 ..) ?_
                    refine T_if1 (by decide +kernel) ?_
                    refine T_let 0 ((z_up_j (by decide)).trans ((z_up_j (by decide)).trans ((z_up_k (by decide)).trans ((z_up_k (by decide)).trans ((z_up_k (by decide)).trans (by decide +kernel)))))) ?_
                    refine T_rI ?_
                    refine T_if1 (by decide) ?_
                    refine T_if0 (by decide) ?_
                    refine T_if1 (by decide +kernel) ?_
                    refine T_let 120 ((z_up_k (by decide)).trans ((z_up_k (by decide)).trans z_up_s)) ?_
                    refine T_let 0 (by decide +kernel) ?_
                    refine T_if1 (by decide) ?_
                    refine T_of (fL_law_J587.eq_1 ..) ?_
                    refine T_of (fL_law_J2073.eq_1 ..) ?_
                    refine T_let 6 (by decide +kernel) ?_
                    exact hr _
                  · refine T_ite (fun h10 => ?_) (fun h10 => ?_)
                    · subst h10
                      refine T_if1 (by decide +kernel) ?_
                      refine T_let 2 (by decide +kernel) ?_
                      refine T_let 1 (by decide +kernel) ?_
                      refine T_if1 (by decide +kernel) ?_
                      refine T_bI ?_
                      refine T_of (fX7_get.eq_1 ..) ?_
                      refine T_if0 (by decide) ?_
                      refine T_if1 (by decide +kernel) ?_
                      refine T_let 3 (by decide +kernel) ?_
                      refine T_if1 (by decide +kernel) ?_
                      refine T_let 9 (by decide +kernel) ?_
                      refine T_if0 (by decide) ?_
                      refine T_if1 (by decide +kernel) ?_
                      refine T_let 3 (by decide +kernel) ?_
                      refine T_if1 (by decide +kernel) ?_
                      refine T_let 2 ((z_up_k (by decide)).trans ((z_up_k (by decide)).trans (by decide +kernel))) ?_
                      refine T_of (fX7_get_J23.eq_1 ..) ?_
                      refine T_rI ?_
                      refine T_rcL ?_
                      refine T_if1 (by decide +kernel) ?_
                      refine T_up ?_
                      refine T_rI ?_
                      refine T_let 1 (by decide +kernel) ?_
                      refine T_if1 (by decide) ?_
                      refine T_let 7 q1 ?_
                      refine T_if1 (by decide +kernel) ?_
                      refine T_bL ?_
                      refine T_of (fX12_told.eq_1 ..) ?_
                      refine T_if1 (by decide +kernel) ?_
                      refine T_up0 ((z_up_k (by decide)).trans ((z_up_k (by decide)).trans ((z_up_k (by decide)).trans (by decide +kernel)))) ?_
                      refine T_bI ?_
                      refine T_of (fX12_in.eq_1 ..) ?_
                      refine T_if0 (by decide) ?_
                      refine T_if0 (by decide) ?_
                      refine T_of (fX12_in_J15.eq_1 ..) ?_
                      refine T_if1 (by decide) ?_
                      refine T_rI ?_
                      refine T_if1 (by decide) ?_
                      refine T_of (fX12_told_J21.eq_1 ..) ?_
                      refine T_if1 (by decide +kernel) ?_
                      refine T_bI ?_
                      refine T_of (fX12_bad.eq_1 ..) ?_
                      refine T_if1 (by decide) ?_
                      refine T_of (fX12_bad_J26.eq_1 ..) ?_
                      refine T_if1 (by decide +kernel) ?_
                      refine T_let 0 ((z_up_k (by decide)).trans ((z_up_k (by decide)).trans ((z_up_k (by decide)).trans (by decide +kernel)))) ?_
                      refine T_if1 (by decide) ?_
                      refine T_of (fX12_bad_J38.eq_1 ..) ?_
                      refine T_if1 (by decide) ?_
                      refine T_rI ?_
                      refine T_if1 (by decide) ?_
                      refine T_if1 (by decide +kernel) ?_
                      refine T_bN ?_
                      refine T_of (fX12_laysAll.eq_1 ..) ?_
                      refine T_if1 (by decide +kernel) ?_
                      refine T_bN ?_
                      refine T_of (fX12_freshens.eq_1 ..) ?_
                      refine T_if1 (by decide +kernel) ?_
                      refine T_let 0 ((z_up_k (by decide)).trans ((z_up_k (by decide)).trans ((z_up_k (by decide)).trans (by decide +kernel)))) ?_
                      refine T_if1 (by decide) ?_
                      refine T_of (fX12_freshens_L10.eq_2 ..) ?_
                      refine T_if1 (by decide +kernel) ?_
                      refine T_let 0 ((z_up_k (by decide)).trans ((z_up_k (by decide)).trans ((z_up_k (by decide)).trans (by decide +kernel)))) ?_
                      refine T_if1 (by decide) ?_
                      refine T_if1 (by decide +kernel) ?_
                      refine T_bN ?_
                      refine T_of (fX12_laysPairs.eq_1 ..) ?_
                      refine T_if1 (by decide +kernel) ?_
                      refine T_up0 ((z_up_k (by decide)).trans ((z_up_k (by decide)).trans ((z_up_k (by decide)).trans (by decide +kernel)))) ?_
                      refine T_if1 (by decide +kernel) ?_
                      refine T_up0 ((z_up_k (by decide)).trans ((z_up_k (by decide)).trans ((z_up_k (by decide)).trans (by decide +kernel)))) ?_
                      refine T_of (fX12_laysPairs_L14.eq_2 ..) ?_
                      refine T_if1 (by decide +kernel) ?_
                      refine T_let 0 ((z_up_k (by decide)).trans ((z_up_k (by decide)).trans ((z_up_k (by decide)).trans (by decide +kernel)))) ?_
                      refine T_if1 (by decide) ?_
                      refine T_rN ?_
                      refine T_if1 (by decide +kernel) ?_
                      refine T_up ?_
                      refine T_if1 (by decide +kernel) ?_
                      refine T_up0 ((z_up_j (by decide)).trans ((z_up_k (by decide)).trans ((z_up_k (by decide)).trans ((z_up_k (by decide)).trans (by decide +kernel))))) ?_
                      refine T_rN ?_
                      refine T_if1 (by decide +kernel) ?_
                      refine T_let 0 ((z_up_j (by decide)).trans ((z_up_k (by decide)).trans ((z_up_k (by decide)).trans ((z_up_k (by decide)).trans (by decide +kernel))))) ?_
                      refine T_if1 (by decide) ?_
                      refine T_if1 (by decide +kernel) ?_
                      refine T_let 312 (by decide +kernel) ?_
                      refine T_if1 (by decide +kernel) ?_
                      refine T_let 120 ((z_up_k (by decide)).trans ((z_up_k (by decide)).trans ((z_up_k (by decide)).trans ((z_up_k (by decide)).trans (by decide +kernel))))) ?_
                      refine T_if1 (by decide +kernel) ?_
                      refine T_let 312 (by decide +kernel) ?_
                      refine T_if1 (by decide +kernel) ?_
                      refine T_let 0 ((z_up_k (by decide)).trans ((z_up_k (by decide)).trans ((z_up_k (by decide)).trans ((z_up_k (by decide)).trans (by decide +kernel))))) ?_
                      refine T_if1 (by decide +kernel) ?_
                      refine T_bI ?_
                      refine T_of (fX12_breaks.eq_1 ..) ?_
                      refine T_if1 (by decide) ?_
                      refine T_of (fX12_breaks_L15.eq_2 ..) ?_
                      refine T_if1 (by decide +kernel) ?_
                      refine T_let 0 ((z_up_j (by decide)).trans ((z_up_k (by decide)).trans ((z_up_k (by decide)).trans ((z_up_k (by decide)).trans (by decide +kernel))))) ?_
                      refine T_if1 (by decide) ?_
                      refine T_if1 (by decide +kernel) ?_
                      refine T_let 3438 (by decide +kernel) ?_
                      refine T_if1 (by decide +kernel) ?_
                      refine T_let 0 ((z_up_j (by decide)).trans ((z_up_k (by decide)).trans ((z_up_k (by decide)).trans ((z_up_k (by decide)).trans (by decide +kernel))))) ?_
                      refine T_if1 (by decide +kernel) ?_
                      refine T_up0 ((z_up_k (by decide)).trans ((z_up_k (by decide)).trans ((z_up_k (by decide)).trans ((z_up_k (by decide)).trans (by decide +kernel))))) ?_
                      refine T_rI ?_
                      refine T_if1 (by decide +kernel) ?_
                      refine T_up0 ((z_up_j (by decide)).trans ((z_up_k (by decide)).trans ((z_up_k (by decide)).trans ((z_up_k (by decide)).trans (by decide +kernel))))) ?_
                      refine T_if1 (by decide +kernel) ?_
                      refine T_up0 ((z_up_j (by decide)).trans ((z_up_k (by decide)).trans ((z_up_k (by decide)).trans ((z_up_k (by decide)).trans (by decide +kernel))))) ?_
                      refine T_of (fX12_laysAll_L39.eq_2 ..) ?_
                      refine T_if1 (by decide +kernel) ?_
                      refine T_let 0 ((z_up_j (by decide)).trans ((z_up_k (by decide)).trans ((z_up_k (by decide)).trans ((z_up_k (by decide)).trans (by decide +kernel))))) ?_
                      refine T_if1 (by decide) ?_
                      refine T_if1 (by decide +kernel) ?_
                      refine T_up ?_
                      refine T_rN ?_
                      refine T_if0 (by decide) ?_
                      refine T_if0 (by decide) ?_
                      refine T_if0 (by decide) ?_
                      refine T_if0 (by decide) ?_
                      refine T_if0 (by decide) ?_
                      refine T_if0 (by decide) ?_
                      refine T_if0 (by decide) ?_
                      refine T_if1 (by decide) ?_
                      refine T_if1 (by decide +kernel) ?_
                      refine T_let 312 (by decide +kernel) ?_
                      refine T_let 1 (by decide +kernel) ?_
                      refine T_if1 (by decide +kernel) ?_
                      refine T_let 2 ((z_up_k (by decide)).trans ((z_up_k (by decide)).trans ((z_up_k (by decide)).trans ((z_up_k (by decide)).trans ((z_up_k (by decide)).trans (by decide +kernel)))))) ?_
                      refine T_rL ?_
                      refine T_if1 (by decide +kernel) ?_
                      refine T_bI ?_
                      refine T_of (fX12_thrown.eq_1 ..) ?_
                      refine T_if1 (by decide +kernel) ?_
                      refine T_let 0 ((z_up_j (by decide)).trans ((z_up_j (by decide)).trans ((z_up_k (by decide)).trans ((z_up_k (by decide)).trans ((z_up_k (by decide)).trans (by decide +kernel)))))) ?_
                      refine T_rI ?_
                      refine T_if1 (by decide) ?_
                      refine T_if0 (by decide) ?_
                      refine T_if1 (by decide +kernel) ?_
                      refine T_let 2 ((z_up_k (by decide)).trans ((z_up_k (by decide)).trans z_up_s)) ?_
                      refine T_let 0 (by decide +kernel) ?_
                      refine T_if1 (by decide) ?_
                      refine T_of (fL_law_J587.eq_1 ..) ?_
                      refine T_of (fL_law_J2073.eq_1 ..) ?_
                      refine T_let 6 (by decide +kernel) ?_
                      exact hr _
                    · refine T_ite (fun h11 => ?_) (fun h11 => ?_)
                      · subst h11
                        refine T_if1 (by decide +kernel) ?_
                        refine T_let 2 (by decide +kernel) ?_
                        refine T_let 2 (by decide +kernel) ?_
                        refine T_if1 (by decide +kernel) ?_
                        refine T_bI ?_
                        refine T_of (fX7_get.eq_1 ..) ?_
                        refine T_if0 (by decide) ?_
                        refine T_if1 (by decide +kernel) ?_
                        refine T_let 3 (by decide +kernel) ?_
                        refine T_if1 (by decide +kernel) ?_
                        refine T_let 9 (by decide +kernel) ?_
                        refine T_if0 (by decide) ?_
                        refine T_if1 (by decide +kernel) ?_
                        refine T_let 3 (by decide +kernel) ?_
                        refine T_if1 (by decide +kernel) ?_
                        refine T_let 3 ((z_up_k (by decide)).trans ((z_up_k (by decide)).trans (by decide +kernel))) ?_
                        refine T_of (fX7_get_J23.eq_1 ..) ?_
                        refine T_rI ?_
                        refine T_rcL ?_
                        refine T_if1 (by decide +kernel) ?_
                        refine T_up ?_
                        refine T_rI ?_
                        refine T_let 1 (by decide +kernel) ?_
                        refine T_if1 (by decide) ?_
                        refine T_let 8 q1 ?_
                        refine T_if1 (by decide +kernel) ?_
                        refine T_bL ?_
                        refine T_of (fX12_told.eq_1 ..) ?_
                        refine T_if1 (by decide +kernel) ?_
                        refine T_up0 ((z_up_k (by decide)).trans ((z_up_k (by decide)).trans ((z_up_k (by decide)).trans (by decide +kernel)))) ?_
                        refine T_bI ?_
                        refine T_of (fX12_in.eq_1 ..) ?_
                        refine T_if0 (by decide) ?_
                        refine T_if0 (by decide) ?_
                        refine T_of (fX12_in_J15.eq_1 ..) ?_
                        refine T_if1 (by decide) ?_
                        refine T_rI ?_
                        refine T_if1 (by decide) ?_
                        refine T_of (fX12_told_J21.eq_1 ..) ?_
                        refine T_if1 (by decide +kernel) ?_
                        refine T_bI ?_
                        refine T_of (fX12_bad.eq_1 ..) ?_
                        refine T_if1 (by decide) ?_
                        refine T_of (fX12_bad_J26.eq_1 ..) ?_
                        refine T_if1 (by decide +kernel) ?_
                        refine T_let 0 ((z_up_k (by decide)).trans ((z_up_k (by decide)).trans ((z_up_k (by decide)).trans (by decide +kernel)))) ?_
                        refine T_if1 (by decide) ?_
                        refine T_of (fX12_bad_J38.eq_1 ..) ?_
                        refine T_if1 (by decide) ?_
                        refine T_rI ?_
                        refine T_if1 (by decide) ?_
                        refine T_if1 (by decide +kernel) ?_
                        refine T_bN ?_
                        refine T_of (fX12_laysAll.eq_1 ..) ?_
                        refine T_if1 (by decide +kernel) ?_
                        refine T_bN ?_
                        refine T_of (fX12_freshens.eq_1 ..) ?_
                        refine T_if1 (by decide +kernel) ?_
                        refine T_let 0 ((z_up_k (by decide)).trans ((z_up_k (by decide)).trans ((z_up_k (by decide)).trans (by decide +kernel)))) ?_
                        refine T_if1 (by decide) ?_
                        refine T_of (fX12_freshens_L10.eq_2 ..) ?_
                        refine T_if1 (by decide +kernel) ?_
                        refine T_let 0 ((z_up_k (by decide)).trans ((z_up_k (by decide)).trans ((z_up_k (by decide)).trans (by decide +kernel)))) ?_
                        refine T_if1 (by decide) ?_
                        refine T_if1 (by decide +kernel) ?_
                        refine T_bN ?_
                        refine T_of (fX12_laysPairs.eq_1 ..) ?_
                        refine T_if1 (by decide +kernel) ?_
                        refine T_up0 ((z_up_k (by decide)).trans ((z_up_k (by decide)).trans ((z_up_k (by decide)).trans (by decide +kernel)))) ?_
                        refine T_if1 (by decide +kernel) ?_
                        refine T_up0 ((z_up_k (by decide)).trans ((z_up_k (by decide)).trans ((z_up_k (by decide)).trans (by decide +kernel)))) ?_
                        refine T_of (fX12_laysPairs_L14.eq_2 ..) ?_
                        refine T_if1 (by decide +kernel) ?_
                        refine T_let 0 ((z_up_k (by decide)).trans ((z_up_k (by decide)).trans ((z_up_k (by decide)).trans (by decide +kernel)))) ?_
                        refine T_if1 (by decide) ?_
                        refine T_rN ?_
                        refine T_if1 (by decide +kernel) ?_
                        refine T_up ?_
                        refine T_if1 (by decide +kernel) ?_
                        refine T_up0 ((z_up_j (by decide)).trans ((z_up_k (by decide)).trans ((z_up_k (by decide)).trans ((z_up_k (by decide)).trans (by decide +kernel))))) ?_
                        refine T_rN ?_
                        refine T_if1 (by decide +kernel) ?_
                        refine T_let 0 ((z_up_j (by decide)).trans ((z_up_k (by decide)).trans ((z_up_k (by decide)).trans ((z_up_k (by decide)).trans (by decide +kernel))))) ?_
                        refine T_if1 (by decide) ?_
                        refine T_if1 (by decide +kernel) ?_
                        refine T_let 312 (by decide +kernel) ?_
                        refine T_if1 (by decide +kernel) ?_
                        refine T_let 120 ((z_up_k (by decide)).trans ((z_up_k (by decide)).trans ((z_up_k (by decide)).trans ((z_up_k (by decide)).trans (by decide +kernel))))) ?_
                        refine T_if1 (by decide +kernel) ?_
                        refine T_let 312 (by decide +kernel) ?_
                        refine T_if1 (by decide +kernel) ?_
                        refine T_let 0 ((z_up_k (by decide)).trans ((z_up_k (by decide)).trans ((z_up_k (by decide)).trans ((z_up_k (by decide)).trans (by decide +kernel))))) ?_
                        refine T_if1 (by decide +kernel) ?_
                        refine T_bI ?_
                        refine T_of (fX12_breaks.eq_1 ..) ?_
                        refine T_if1 (by decide) ?_
                        refine T_of (fX12_breaks_L15.eq_2 ..) ?_
                        refine T_if1 (by decide +kernel) ?_
                        refine T_let 0 ((z_up_j (by decide)).trans ((z_up_k (by decide)).trans ((z_up_k (by decide)).trans ((z_up_k (by decide)).trans (by decide +kernel))))) ?_
                        refine T_if1 (by decide) ?_
                        refine T_if1 (by decide +kernel) ?_
                        refine T_let 3438 (by decide +kernel) ?_
                        refine T_if1 (by decide +kernel) ?_
                        refine T_let 0 ((z_up_j (by decide)).trans ((z_up_k (by decide)).trans ((z_up_k (by decide)).trans ((z_up_k (by decide)).trans (by decide +kernel))))) ?_
                        refine T_if1 (by decide +kernel) ?_
                        refine T_up0 ((z_up_k (by decide)).trans ((z_up_k (by decide)).trans ((z_up_k (by decide)).trans ((z_up_k (by decide)).trans (by decide +kernel))))) ?_
                        refine T_rI ?_
                        refine T_if1 (by decide +kernel) ?_
                        refine T_up0 ((z_up_j (by decide)).trans ((z_up_k (by decide)).trans ((z_up_k (by decide)).trans ((z_up_k (by decide)).trans (by decide +kernel))))) ?_
                        refine T_if1 (by decide +kernel) ?_
                        refine T_up0 ((z_up_j (by decide)).trans ((z_up_k (by decide)).trans ((z_up_k (by decide)).trans ((z_up_k (by decide)).trans (by decide +kernel))))) ?_
                        refine T_of (fX12_laysAll_L39.eq_2 ..) ?_
                        refine T_if1 (by decide +kernel) ?_
                        refine T_let 0 ((z_up_j (by decide)).trans ((z_up_k (by decide)).trans ((z_up_k (by decide)).trans ((z_up_k (by decide)).trans (by decide +kernel))))) ?_
                        refine T_if1 (by decide) ?_
                        refine T_if1 (by decide +kernel) ?_
                        refine T_up ?_
                        refine T_rN ?_
                        refine T_if0 (by decide) ?_
                        refine T_if0 (by decide) ?_
                        refine T_if0 (by decide) ?_
                        refine T_if0 (by decide) ?_
                        refine T_if0 (by decide) ?_
                        refine T_if0 (by decide) ?_
                        refine T_if0 (by decide) ?_
                        refine T_if0 (by decide) ?_
                        refine T_if1 (by decide) ?_
                        refine T_if1 (by decide +kernel) ?_
                        refine T_let 312 (by decide +kernel) ?_
                        refine T_let 2 (by decide +kernel) ?_
                        refine T_if1 (by decide +kernel) ?_
                        refine T_let 3 ((z_up_k (by decide)).trans ((z_up_k (by decide)).trans ((z_up_k (by decide)).trans ((z_up_k (by decide)).trans ((z_up_k (by decide)).trans (by decide +kernel)))))) ?_
                        refine T_rL ?_
                        refine T_if1 (by decide +kernel) ?_
                        refine T_bI ?_
                        refine T_of (fX12_thrown.eq_1 ..) ?_
                        refine T_if1 (by decide +kernel) ?_
                        refine T_let 0 ((z_up_j (by decide)).trans ((z_up_j (by decide)).trans ((z_up_k (by decide)).trans ((z_up_k (by decide)).trans ((z_up_k (by decide)).trans (by decide +kernel)))))) ?_
                        refine T_rI ?_
                        refine T_if1 (by decide) ?_
                        refine T_if0 (by decide) ?_
                        refine T_if1 (by decide +kernel) ?_
                        refine T_let 3 ((z_up_k (by decide)).trans ((z_up_k (by decide)).trans z_up_s)) ?_
                        refine T_let 0 (by decide +kernel) ?_
                        refine T_if1 (by decide) ?_
                        refine T_of (fL_law_J587.eq_1 ..) ?_
                        refine T_of (fL_law_J2073.eq_1 ..) ?_
                        refine T_let 6 (by decide +kernel) ?_
                        exact hr _
                      · refine T_ite (fun h12 => ?_) (fun h12 => ?_)
                        · subst h12
                          refine T_if1 (by decide +kernel) ?_
                          refine T_let 2 (by decide +kernel) ?_
                          refine T_let 3 (by decide +kernel) ?_
                          refine T_if1 (by decide +kernel) ?_
                          refine T_bI ?_
                          refine T_of (fX7_get.eq_1 ..) ?_
                          refine T_if0 (by decide) ?_
                          refine T_if1 (by decide +kernel) ?_
                          refine T_let 3 (by decide +kernel) ?_
                          refine T_if1 (by decide +kernel) ?_
                          refine T_let 9 (by decide +kernel) ?_
                          refine T_if0 (by decide) ?_
                          refine T_if1 (by decide +kernel) ?_
                          refine T_let 3 (by decide +kernel) ?_
                          refine T_if1 (by decide +kernel) ?_
                          refine T_let 0 ((z_up_k (by decide)).trans ((z_up_k (by decide)).trans (by decide +kernel))) ?_
                          refine T_of (fX7_get_J23.eq_1 ..) ?_
                          refine T_rI ?_
                          refine T_rcL ?_
                          refine T_if1 (by decide +kernel) ?_
                          refine T_up0 ((z_up_k (by decide)).trans ((z_up_k (by decide)).trans (by decide +kernel))) ?_
                          refine T_rI ?_
                          refine T_let 1 (by decide +kernel) ?_
                          refine T_if1 (by decide) ?_
                          refine T_let 9 q1 ?_
                          refine T_if1 (by decide +kernel) ?_
                          refine T_bL ?_
                          refine T_of (fX12_told.eq_1 ..) ?_
                          refine T_if1 (by decide +kernel) ?_
                          refine T_up0 ((z_up_k (by decide)).trans ((z_up_k (by decide)).trans (by decide +kernel))) ?_
                          refine T_bI ?_
                          refine T_of (fX12_in.eq_1 ..) ?_
                          refine T_if0 (by decide) ?_
                          refine T_if0 (by decide) ?_
                          refine T_of (fX12_in_J15.eq_1 ..) ?_
                          refine T_if1 (by decide) ?_
                          refine T_rI ?_
                          refine T_if1 (by decide) ?_
                          refine T_of (fX12_told_J21.eq_1 ..) ?_
                          refine T_if1 (by decide +kernel) ?_
                          refine T_bI ?_
                          refine T_of (fX12_bad.eq_1 ..) ?_
                          refine T_if1 (by decide) ?_
                          refine T_of (fX12_bad_J26.eq_1 ..) ?_
                          refine T_if1 (by decide +kernel) ?_
                          refine T_let 0 ((z_up_k (by decide)).trans ((z_up_k (by decide)).trans (by decide +kernel))) ?_
                          refine T_if1 (by decide) ?_
                          refine T_of (fX12_bad_J38.eq_1 ..) ?_
                          refine T_if1 (by decide) ?_
                          refine T_rI ?_
                          refine T_if1 (by decide) ?_
                          refine T_if1 (by decide +kernel) ?_
                          refine T_bN ?_
                          refine T_of (fX12_laysAll.eq_1 ..) ?_
                          refine T_if1 (by decide +kernel) ?_
                          refine T_bN ?_
                          refine T_of (fX12_freshens.eq_1 ..) ?_
                          refine T_if1 (by decide +kernel) ?_
                          refine T_let 0 ((z_up_k (by decide)).trans ((z_up_k (by decide)).trans (by decide +kernel))) ?_
                          refine T_if1 (by decide) ?_
                          refine T_of (fX12_freshens_L10.eq_2 ..) ?_
                          refine T_if1 (by decide +kernel) ?_
                          refine T_let 0 ((z_up_k (by decide)).trans ((z_up_k (by decide)).trans (by decide +kernel))) ?_
                          refine T_if1 (by decide) ?_
                          refine T_if1 (by decide +kernel) ?_
                          refine T_bN ?_
                          refine T_of (fX12_laysPairs.eq_1 ..) ?_
                          refine T_if1 (by decide +kernel) ?_
                          refine T_up0 ((z_up_k (by decide)).trans ((z_up_k (by decide)).trans (by decide +kernel))) ?_
                          refine T_if1 (by decide +kernel) ?_
                          refine T_up0 ((z_up_k (by decide)).trans ((z_up_k (by decide)).trans (by decide +kernel))) ?_
                          refine T_of (fX12_laysPairs_L14.eq_2 ..) ?_
                          refine T_if1 (by decide +kernel) ?_
                          refine T_let 0 ((z_up_k (by decide)).trans ((z_up_k (by decide)).trans (by decide +kernel))) ?_
                          refine T_if1 (by decide) ?_
                          refine T_rN ?_
                          refine T_if1 (by decide +kernel) ?_
                          refine T_up ?_
                          refine T_if1 (by decide +kernel) ?_
                          refine T_up0 ((z_up_j (by decide)).trans ((z_up_k (by decide)).trans ((z_up_k (by decide)).trans (by decide +kernel)))) ?_
                          refine T_rN ?_
                          refine T_if1 (by decide +kernel) ?_
                          refine T_let 0 ((z_up_j (by decide)).trans ((z_up_k (by decide)).trans ((z_up_k (by decide)).trans (by decide +kernel)))) ?_
                          refine T_if1 (by decide) ?_
                          refine T_if1 (by decide +kernel) ?_
                          refine T_let 312 (by decide +kernel) ?_
                          refine T_if1 (by decide +kernel) ?_
                          refine T_let 120 ((z_up_k (by decide)).trans ((z_up_k (by decide)).trans ((z_up_k (by decide)).trans (by decide +kernel)))) ?_
                          refine T_if1 (by decide +kernel) ?_
                          refine T_let 312 (by decide +kernel) ?_
                          refine T_if1 (by decide +kernel) ?_
                          refine T_let 0 ((z_up_k (by decide)).trans ((z_up_k (by decide)).trans ((z_up_k (by decide)).trans (by decide +kernel)))) ?_
                          refine T_if1 (by decide +kernel) ?_
                          refine T_bI ?_
                          refine T_of (fX12_breaks.eq_1 ..) ?_
                          refine T_if1 (by decide) ?_
                          refine T_of (fX12_breaks_L15.eq_2 ..) ?_
                          refine T_if1 (by decide +kernel) ?_
                          refine T_let 0 ((z_up_j (by decide)).trans ((z_up_k (by decide)).trans ((z_up_k (by decide)).trans (by decide +kernel)))) ?_
                          refine T_if1 (by decide) ?_
                          refine T_if1 (by decide +kernel) ?_
                          refine T_let 3438 (by decide +kernel) ?_
                          refine T_if1 (by decide +kernel) ?_
                          refine T_let 0 ((z_up_j (by decide)).trans ((z_up_k (by decide)).trans ((z_up_k (by decide)).trans (by decide +kernel)))) ?_
                          refine T_if1 (by decide +kernel) ?_
                          refine T_up0 ((z_up_k (by decide)).trans ((z_up_k (by decide)).trans ((z_up_k (by decide)).trans (by decide +kernel)))) ?_
                          refine T_rI ?_
                          refine T_if1 (by decide +kernel) ?_
                          refine T_up0 ((z_up_j (by decide)).trans ((z_up_k (by decide)).trans ((z_up_k (by decide)).trans (by decide +kernel)))) ?_
                          refine T_if1 (by decide +kernel) ?_
                          refine T_up0 ((z_up_j (by decide)).trans ((z_up_k (by decide)).trans ((z_up_k (by decide)).trans (by decide +kernel)))) ?_
                          refine T_of (fX12_laysAll_L39.eq_2 ..) ?_
                          refine T_if1 (by decide +kernel) ?_
                          refine T_let 0 ((z_up_j (by decide)).trans ((z_up_k (by decide)).trans ((z_up_k (by decide)).trans (by decide +kernel)))) ?_
                          refine T_if1 (by decide) ?_
                          refine T_if1 (by decide +kernel) ?_
                          refine T_up ?_
                          refine T_rN ?_
                          refine T_if0 (by decide) ?_
                          refine T_if0 (by decide) ?_
                          refine T_if0 (by decide) ?_
                          refine T_if0 (by decide) ?_
                          refine T_if0 (by decide) ?_
                          refine T_if0 (by decide) ?_
                          refine T_if0 (by decide) ?_
                          refine T_if0 (by decide) ?_
                          refine T_if0 (by decide) ?_
                          refine T_if1 (by decide) ?_
                          refine T_if1 (by decide +kernel) ?_
                          refine T_let 312 (by decide +kernel) ?_
                          refine T_let 3 (by decide +kernel) ?_
                          refine T_if1 (by decide +kernel) ?_
                          refine T_let 0 ((z_up_k (by decide)).trans ((z_up_k (by decide)).trans ((z_up_k (by decide)).trans ((z_up_k (by decide)).trans (by decide +kernel))))) ?_
                          refine T_rL ?_
                          refine T_if1 (by decide +kernel) ?_
                          refine T_bI ?_
                          refine T_of (fX12_thrown.eq_1 ..) ?_
                          refine T_if1 (by decide +kernel) ?_
                          refine T_let 0 ((z_up_j (by decide)).trans ((z_up_j (by decide)).trans ((z_up_k (by decide)).trans ((z_up_k (by decide)).trans (by decide +kernel))))) ?_
                          refine T_rI ?_
                          refine T_if1 (by decide) ?_
                          refine T_if0 (by decide) ?_
                          refine T_if1 (by decide +kernel) ?_
                          refine T_let 0 ((z_up_k (by decide)).trans ((z_up_k (by decide)).trans ((z_up_k (by decide)).trans ((z_up_k (by decide)).trans (by decide +kernel))))) ?_
                          refine T_let 0 (by decide +kernel) ?_
                          refine T_if1 (by decide) ?_
                          refine T_of (fL_law_J587.eq_1 ..) ?_
                          refine T_of (fL_law_J2073.eq_1 ..) ?_
                          refine T_let 6 (by decide +kernel) ?_
                          exact hr _
                        · refine T_ite (fun h13 => ?_) (fun h13 => ?_)
                          · subst h13
                            refine T_if1 (by decide +kernel) ?_
                            refine T_let 2 (by decide +kernel) ?_
                            refine T_let 4 (by decide +kernel) ?_
                            refine T_if1 (by decide +kernel) ?_
                            refine T_bI ?_
                            refine T_of (fX7_get.eq_1 ..) ?_
                            refine T_if0 (by decide) ?_
                            refine T_if1 (by decide +kernel) ?_
                            refine T_let 3 (by decide +kernel) ?_
                            refine T_if1 (by decide +kernel) ?_
                            refine T_let 9 (by decide +kernel) ?_
                            refine T_if0 (by decide) ?_
                            refine T_if1 (by decide +kernel) ?_
                            refine T_let 3 (by decide +kernel) ?_
                            refine T_if1 (by decide +kernel) ?_
                            refine T_let 0 ((z_up_k (by decide)).trans ((z_up_k (by decide)).trans (by decide +kernel))) ?_
                            refine T_of (fX7_get_J23.eq_1 ..) ?_
                            refine T_rI ?_
                            refine T_rcL ?_
                            refine T_if1 (by decide +kernel) ?_
                            refine T_up0 ((z_up_k (by decide)).trans ((z_up_k (by decide)).trans (by decide +kernel))) ?_
                            refine T_rI ?_
                            refine T_let 1 (by decide +kernel) ?_
                            refine T_if1 (by decide) ?_
                            refine T_let 10 q1 ?_
                            refine T_if1 (by decide +kernel) ?_
                            refine T_bL ?_
                            refine T_of (fX12_told.eq_1 ..) ?_
                            refine T_if1 (by decide +kernel) ?_
                            refine T_up0 ((z_up_k (by decide)).trans ((z_up_k (by decide)).trans (by decide +kernel))) ?_
                            refine T_bI ?_
                            refine T_of (fX12_in.eq_1 ..) ?_
                            refine T_if0 (by decide) ?_
                            refine T_if0 (by decide) ?_
                            refine T_of (fX12_in_J15.eq_1 ..) ?_
                            refine T_if1 (by decide) ?_
                            refine T_rI ?_
                            refine T_if1 (by decide) ?_
                            refine T_of (fX12_told_J21.eq_1 ..) ?_
                            refine T_if1 (by decide +kernel) ?_
                            refine T_bI ?_
                            refine T_of (fX12_bad.eq_1 ..) ?_
                            refine T_if1 (by decide) ?_
                            refine T_of (fX12_bad_J26.eq_1 ..) ?_
                            refine T_if1 (by decide +kernel) ?_
                            refine T_let 0 ((z_up_k (by decide)).trans ((z_up_k (by decide)).trans (by decide +kernel))) ?_
                            refine T_if1 (by decide) ?_
                            refine T_of (fX12_bad_J38.eq_1 ..) ?_
                            refine T_if1 (by decide) ?_
                            refine T_rI ?_
                            refine T_if1 (by decide) ?_
                            refine T_if1 (by decide +kernel) ?_
                            refine T_bN ?_
                            refine T_of (fX12_laysAll.eq_1 ..) ?_
                            refine T_if1 (by decide +kernel) ?_
                            refine T_bN ?_
                            refine T_of (fX12_freshens.eq_1 ..) ?_
                            refine T_if1 (by decide +kernel) ?_
                            refine T_let 0 ((z_up_k (by decide)).trans ((z_up_k (by decide)).trans (by decide +kernel))) ?_
                            refine T_if1 (by decide) ?_
                            refine T_of (fX12_freshens_L10.eq_2 ..) ?_
                            refine T_if1 (by decide +kernel) ?_
                            refine T_let 0 ((z_up_k (by decide)).trans ((z_up_k (by decide)).trans (by decide +kernel))) ?_
                            refine T_if1 (by decide) ?_
                            refine T_if1 (by decide +kernel) ?_
                            refine T_bN ?_
                            refine T_of (fX12_laysPairs.eq_1 ..) ?_
                            refine T_if1 (by decide +kernel) ?_
                            refine T_up0 ((z_up_k (by decide)).trans ((z_up_k (by decide)).trans (by decide +kernel))) ?_
                            refine T_if1 (by decide +kernel) ?_
                            refine T_up0 ((z_up_k (by decide)).trans ((z_up_k (by decide)).trans (by decide +kernel))) ?_
                            refine T_of (fX12_laysPairs_L14.eq_2 ..) ?_
                            refine T_if1 (by decide +kernel) ?_
                            refine T_let 0 ((z_up_k (by decide)).trans ((z_up_k (by decide)).trans (by decide +kernel))) ?_
                            refine T_if1 (by decide) ?_
                            refine T_rN ?_
                            refine T_if1 (by decide +kernel) ?_
                            refine T_up ?_
                            refine T_if1 (by decide +kernel) ?_
                            refine T_up0 ((z_up_j (by decide)).trans ((z_up_k (by decide)).trans ((z_up_k (by decide)).trans (by decide +kernel)))) ?_
                            refine T_rN ?_
                            refine T_if1 (by decide +kernel) ?_
                            refine T_let 0 ((z_up_j (by decide)).trans ((z_up_k (by decide)).trans ((z_up_k (by decide)).trans (by decide +kernel)))) ?_
                            refine T_if1 (by decide) ?_
                            refine T_if1 (by decide +kernel) ?_
                            refine T_let 312 (by decide +kernel) ?_
                            refine T_if1 (by decide +kernel) ?_
                            refine T_let 120 ((z_up_k (by decide)).trans ((z_up_k (by decide)).trans ((z_up_k (by decide)).trans (by decide +kernel)))) ?_
                            refine T_if1 (by decide +kernel) ?_
                            refine T_let 312 (by decide +kernel) ?_
                            refine T_if1 (by decide +kernel) ?_
                            refine T_let 0 ((z_up_k (by decide)).trans ((z_up_k (by decide)).trans ((z_up_k (by decide)).trans (by decide +kernel)))) ?_
                            refine T_if1 (by decide +kernel) ?_
                            refine T_bI ?_
                            refine T_of (fX12_breaks.eq_1 ..) ?_
                            refine T_if1 (by decide) ?_
                            refine T_of (fX12_breaks_L15.eq_2 ..) ?_
                            refine T_if1 (by decide +kernel) ?_
                            refine T_let 0 ((z_up_j (by decide)).trans ((z_up_k (by decide)).trans ((z_up_k (by decide)).trans (by decide +kernel)))) ?_
                            refine T_if1 (by decide) ?_
                            refine T_if1 (by decide +kernel) ?_
                            refine T_let 3438 (by decide +kernel) ?_
                            refine T_if1 (by decide +kernel) ?_
                            refine T_let 0 ((z_up_j (by decide)).trans ((z_up_k (by decide)).trans ((z_up_k (by decide)).trans (by decide +kernel)))) ?_
                            refine T_if1 (by decide +kernel) ?_
                            refine T_up0 ((z_up_k (by decide)).trans ((z_up_k (by decide)).trans ((z_up_k (by decide)).trans (by decide +kernel)))) ?_
                            refine T_rI ?_
                            refine T_if1 (by decide +kernel) ?_
                            refine T_up0 ((z_up_j (by decide)).trans ((z_up_k (by decide)).trans ((z_up_k (by decide)).trans (by decide +kernel)))) ?_
                            refine T_if1 (by decide +kernel) ?_
                            refine T_up0 ((z_up_j (by decide)).trans ((z_up_k (by decide)).trans ((z_up_k (by decide)).trans (by decide +kernel)))) ?_
                            refine T_of (fX12_laysAll_L39.eq_2 ..) ?_
                            refine T_if1 (by decide +kernel) ?_
                            refine T_let 0 ((z_up_j (by decide)).trans ((z_up_k (by decide)).trans ((z_up_k (by decide)).trans (by decide +kernel)))) ?_
                            refine T_if1 (by decide) ?_
                            refine T_if1 (by decide +kernel) ?_
                            refine T_up ?_
                            refine T_rN ?_
                            refine T_if0 (by decide) ?_
                            refine T_if0 (by decide) ?_
                            refine T_if0 (by decide) ?_
                            refine T_if0 (by decide) ?_
                            refine T_if0 (by decide) ?_
                            refine T_if0 (by decide) ?_
                            refine T_if0 (by decide) ?_
                            refine T_if0 (by decide) ?_
                            refine T_if0 (by decide) ?_
                            refine T_if0 (by decide) ?_
                            refine T_if1 (by decide) ?_
                            refine T_if1 (by decide +kernel) ?_
                            refine T_let 312 (by decide +kernel) ?_
                            refine T_let 4 (by decide +kernel) ?_
                            refine T_if1 (by decide +kernel) ?_
                            refine T_let 0 ((z_up_k (by decide)).trans ((z_up_k (by decide)).trans ((z_up_k (by decide)).trans ((z_up_k (by decide)).trans (by decide +kernel))))) ?_
                            refine T_rL ?_
                            refine T_if1 (by decide +kernel) ?_
                            refine T_bI ?_
                            refine T_of (fX12_thrown.eq_1 ..) ?_
                            refine T_if1 (by decide +kernel) ?_
                            refine T_let 0 ((z_up_j (by decide)).trans ((z_up_j (by decide)).trans ((z_up_k (by decide)).trans ((z_up_k (by decide)).trans (by decide +kernel))))) ?_
                            refine T_rI ?_
                            refine T_if1 (by decide) ?_
                            refine T_if0 (by decide) ?_
                            refine T_if1 (by decide +kernel) ?_
                            refine T_let 0 ((z_up_k (by decide)).trans ((z_up_k (by decide)).trans ((z_up_k (by decide)).trans ((z_up_k (by decide)).trans (by decide +kernel))))) ?_
                            refine T_let 0 (by decide +kernel) ?_
                            refine T_if1 (by decide) ?_
                            refine T_of (fL_law_J587.eq_1 ..) ?_
                            refine T_of (fL_law_J2073.eq_1 ..) ?_
                            refine T_let 6 (by decide +kernel) ?_
                            exact hr _
                          · refine T_ite (fun h14 => ?_) (fun h14 => ?_)
                            · subst h14
                              refine T_if1 (by decide +kernel) ?_
                              refine T_let 2 (by decide +kernel) ?_
                              refine T_let 5 (by decide +kernel) ?_
                              refine T_if1 (by decide +kernel) ?_
                              refine T_bI ?_
                              refine T_of (fX7_get.eq_1 ..) ?_
                              refine T_if0 (by decide) ?_
                              refine T_if1 (by decide +kernel) ?_
                              refine T_let 3 (by decide +kernel) ?_
                              refine T_if1 (by decide +kernel) ?_
                              refine T_let 9 (by decide +kernel) ?_
                              refine T_if0 (by decide) ?_
                              refine T_if1 (by decide +kernel) ?_
                              refine T_let 3 (by decide +kernel) ?_
                              refine T_if1 (by decide +kernel) ?_
                              refine T_let 1 ((z_up_k (by decide)).trans ((z_up_k (by decide)).trans (by decide +kernel))) ?_
                              refine T_of (fX7_get_J23.eq_1 ..) ?_
                              refine T_rI ?_
                              refine T_rcL ?_
                              refine T_if1 (by decide +kernel) ?_
                              refine T_up ?_
                              refine T_rI ?_
                              refine T_let 1 (by decide +kernel) ?_
                              refine T_if1 (by decide) ?_
                              refine T_let 11 q1 ?_
                              refine T_if1 (by decide +kernel) ?_
                              refine T_bL ?_
                              refine T_of (fX12_told.eq_1 ..) ?_
                              refine T_if1 (by decide +kernel) ?_
                              refine T_up0 ((z_up_k (by decide)).trans ((z_up_k (by decide)).trans ((z_up_k (by decide)).trans (by decide +kernel)))) ?_
                              refine T_bI ?_
                              refine T_of (fX12_in.eq_1 ..) ?_
                              refine T_if0 (by decide) ?_
                              refine T_if0 (by decide) ?_
                              refine T_of (fX12_in_J15.eq_1 ..) ?_
                              refine T_if1 (by decide) ?_
                              refine T_rI ?_
                              refine T_if1 (by decide) ?_
                              refine T_of (fX12_told_J21.eq_1 ..) ?_
                              refine T_if1 (by decide +kernel) ?_
                              refine T_bI ?_
                              refine T_of (fX12_bad.eq_1 ..) ?_
                              refine T_if1 (by decide) ?_
                              refine T_of (fX12_bad_J26.eq_1 ..) ?_
                              refine T_if1 (by decide +kernel) ?_
                              refine T_let 0 ((z_up_k (by decide)).trans ((z_up_k (by decide)).trans ((z_up_k (by decide)).trans (by decide +kernel)))) ?_
                              refine T_if1 (by decide) ?_
                              refine T_of (fX12_bad_J38.eq_1 ..) ?_
                              refine T_if1 (by decide) ?_
                              refine T_rI ?_
                              refine T_if1 (by decide) ?_
                              refine T_if1 (by decide +kernel) ?_
                              refine T_bN ?_
                              refine T_of (fX12_laysAll.eq_1 ..) ?_
                              refine T_if1 (by decide +kernel) ?_
                              refine T_bN ?_
                              refine T_of (fX12_freshens.eq_1 ..) ?_
                              refine T_if1 (by decide +kernel) ?_
                              refine T_let 0 ((z_up_k (by decide)).trans ((z_up_k (by decide)).trans ((z_up_k (by decide)).trans (by decide +kernel)))) ?_
                              refine T_if1 (by decide) ?_
                              refine T_of (fX12_freshens_L10.eq_2 ..) ?_
                              refine T_if1 (by decide +kernel) ?_
                              refine T_let 0 ((z_up_k (by decide)).trans ((z_up_k (by decide)).trans ((z_up_k (by decide)).trans (by decide +kernel)))) ?_
                              refine T_if1 (by decide) ?_
                              refine T_if1 (by decide +kernel) ?_
                              refine T_bN ?_
                              refine T_of (fX12_laysPairs.eq_1 ..) ?_
                              refine T_if1 (by decide +kernel) ?_
                              refine T_up0 ((z_up_k (by decide)).trans ((z_up_k (by decide)).trans ((z_up_k (by decide)).trans (by decide +kernel)))) ?_
                              refine T_if1 (by decide +kernel) ?_
                              refine T_up0 ((z_up_k (by decide)).trans ((z_up_k (by decide)).trans ((z_up_k (by decide)).trans (by decide +kernel)))) ?_
                              refine T_of (fX12_laysPairs_L14.eq_2 ..) ?_
                              refine T_if1 (by decide +kernel) ?_
                              refine T_let 0 ((z_up_k (by decide)).trans ((z_up_k (by decide)).trans ((z_up_k (by decide)).trans (by decide +kernel)))) ?_
                              refine T_if1 (by decide) ?_
                              refine T_rN ?_
                              refine T_if1 (by decide +kernel) ?_
                              refine T_up ?_
                              refine T_if1 (by decide +kernel) ?_
                              refine T_up0 ((z_up_j (by decide)).trans ((z_up_k (by decide)).trans ((z_up_k (by decide)).trans ((z_up_k (by decide)).trans (by decide +kernel))))) ?_
                              refine T_rN ?_
                              refine T_if1 (by decide +kernel) ?_
                              refine T_let 0 ((z_up_j (by decide)).trans ((z_up_k (by decide)).trans ((z_up_k (by decide)).trans ((z_up_k (by decide)).trans (by decide +kernel))))) ?_
                              refine T_if1 (by decide) ?_
                              refine T_if1 (by decide +kernel) ?_
                              refine T_let 312 (by decide +kernel) ?_
                              refine T_if1 (by decide +kernel) ?_
                              refine T_let 120 ((z_up_k (by decide)).trans ((z_up_k (by decide)).trans ((z_up_k (by decide)).trans ((z_up_k (by decide)).trans (by decide +kernel))))) ?_
                              refine T_if1 (by decide +kernel) ?_
                              refine T_let 312 (by decide +kernel) ?_
                              refine T_if1 (by decide +kernel) ?_
                              refine T_let 0 ((z_up_k (by decide)).trans ((z_up_k (by decide)).trans ((z_up_k (by decide)).trans ((z_up_k (by decide)).trans (by decide +kernel))))) ?_
                              refine T_if1 (by decide +kernel) ?_
                              refine T_bI ?_
                              refine T_of (fX12_breaks.eq_1 ..) ?_
                              refine T_if1 (by decide) ?_
                              refine T_of (fX12_breaks_L15.eq_2 ..) ?_
                              refine T_if1 (by decide +kernel) ?_
                              refine T_let 0 ((z_up_j (by decide)).trans ((z_up_k (by decide)).trans ((z_up_k (by decide)).trans ((z_up_k (by decide)).trans (by decide +kernel))))) ?_
                              refine T_if1 (by decide) ?_
                              refine T_if1 (by decide +kernel) ?_
                              refine T_let 3438 (by decide +kernel) ?_
                              refine T_if1 (by decide +kernel) ?_
                              refine T_let 0 ((z_up_j (by decide)).trans ((z_up_k (by decide)).trans ((z_up_k (by decide)).trans ((z_up_k (by decide)).trans (by decide +kernel))))) ?_
                              refine T_if1 (by decide +kernel) ?_
                              refine T_up0 ((z_up_k (by decide)).trans ((z_up_k (by decide)).trans ((z_up_k (by decide)).trans ((z_up_k (by decide)).trans (by decide +kernel))))) ?_
                              refine T_rI ?_
                              refine T_if1 (by decide +kernel) ?_
                              refine T_up0 ((z_up_j (by decide)).trans ((z_up_k (by decide)).trans ((z_up_k (by decide)).trans ((z_up_k (by decide)).trans (by decide +kernel))))) ?_
                              refine T_if1 (by decide +kernel) ?_
                              refine T_up0 ((z_up_j (by decide)).trans ((z_up_k (by decide)).trans ((z_up_k (by decide)).trans ((z_up_k (by decide)).trans (by decide +kernel))))) ?_
                              refine T_of (fX12_laysAll_L39.eq_2 ..) ?_
                              refine T_if1 (by decide +kernel) ?_
                              refine T_let 0 ((z_up_j (by decide)).trans ((z_up_k (by decide)).trans ((z_up_k (by decide)).trans ((z_up_k (by decide)).trans (by decide +kernel))))) ?_
                              refine T_if1 (by decide) ?_
                              refine T_if1 (by decide +kernel) ?_
                              refine T_up ?_
                              refine T_rN ?_
                              refine T_if0 (by decide) ?_
                              refine T_if0 (by decide) ?_
                              refine T_if0 (by decide) ?_
                              refine T_if0 (by decide) ?_
                              refine T_if0 (by decide) ?_
                              refine T_if0 (by decide) ?_
                              refine T_if0 (by decide) ?_
                              refine T_if0 (by decide) ?_
                              refine T_if0 (by decide) ?_
                              refine T_if0 (by decide) ?_
                              refine T_if0 (by decide) ?_
                              refine T_if1 (by decide) ?_
                              refine T_if1 (by decide +kernel) ?_
                              refine T_let 312 (by decide +kernel) ?_
                              refine T_let 5 (by decide +kernel) ?_
                              refine T_if1 (by decide +kernel) ?_
                              refine T_let 1 ((z_up_k (by decide)).trans ((z_up_k (by decide)).trans ((z_up_k (by decide)).trans ((z_up_k (by decide)).trans ((z_up_k (by decide)).trans (by decide +kernel)))))) ?_
                              refine T_rL ?_
                              refine T_if1 (by decide +kernel) ?_
                              refine T_bI ?_
                              refine T_of (fX12_thrown.eq_1 ..) ?_
                              refine T_if1 (by decide +kernel) ?_
                              refine T_let 0 ((z_up_j (by decide)).trans ((z_up_j (by decide)).trans ((z_up_k (by decide)).trans ((z_up_k (by decide)).trans ((z_up_k (by decide)).trans (by decide +kernel)))))) ?_
                              refine T_rI ?_
                              refine T_if1 (by decide) ?_
                              refine T_if0 (by decide) ?_
                              refine T_if1 (by decide +kernel) ?_
                              refine T_let 1 ((z_up_k (by decide)).trans ((z_up_k (by decide)).trans z_up_s)) ?_
                              refine T_let 0 (by decide +kernel) ?_
                              refine T_if1 (by decide) ?_
                              refine T_of (fL_law_J587.eq_1 ..) ?_
                              refine T_of (fL_law_J2073.eq_1 ..) ?_
                              refine T_let 6 (by decide +kernel) ?_
                              exact hr _
                            · refine T_ite (fun h15 => ?_) (fun h15 => ?_)
                              · subst h15
                                refine T_if1 (by decide +kernel) ?_
                                refine T_let 2 (by decide +kernel) ?_
                                refine T_let 6 (by decide +kernel) ?_
                                refine T_if1 (by decide +kernel) ?_
                                refine T_bI ?_
                                refine T_of (fX7_get.eq_1 ..) ?_
                                refine T_if0 (by decide) ?_
                                refine T_if1 (by decide +kernel) ?_
                                refine T_let 3 (by decide +kernel) ?_
                                refine T_if1 (by decide +kernel) ?_
                                refine T_let 9 (by decide +kernel) ?_
                                refine T_if0 (by decide) ?_
                                refine T_if1 (by decide +kernel) ?_
                                refine T_let 3 (by decide +kernel) ?_
                                refine T_if1 (by decide +kernel) ?_
                                refine T_let 0 ((z_up_k (by decide)).trans ((z_up_k (by decide)).trans (by decide +kernel))) ?_
                                refine T_of (fX7_get_J23.eq_1 ..) ?_
                                refine T_rI ?_
                                refine T_rcL ?_
                                refine T_if1 (by decide +kernel) ?_
                                refine T_up0 ((z_up_k (by decide)).trans ((z_up_k (by decide)).trans (by decide +kernel))) ?_
                                refine T_rI ?_
                                refine T_let 1 (by decide +kernel) ?_
                                refine T_if1 (by decide) ?_
                                refine T_let 12 q1 ?_
                                refine T_if1 (by decide +kernel) ?_
                                refine T_bL ?_
                                refine T_of (fX12_told.eq_1 ..) ?_
                                refine T_if1 (by decide +kernel) ?_
                                refine T_up0 ((z_up_k (by decide)).trans ((z_up_k (by decide)).trans (by decide +kernel))) ?_
                                refine T_bI ?_
                                refine T_of (fX12_in.eq_1 ..) ?_
                                refine T_if0 (by decide) ?_
                                refine T_if0 (by decide) ?_
                                refine T_of (fX12_in_J15.eq_1 ..) ?_
                                refine T_if1 (by decide) ?_
                                refine T_rI ?_
                                refine T_if1 (by decide) ?_
                                refine T_of (fX12_told_J21.eq_1 ..) ?_
                                refine T_if1 (by decide +kernel) ?_
                                refine T_bI ?_
                                refine T_of (fX12_bad.eq_1 ..) ?_
                                refine T_if1 (by decide) ?_
                                refine T_of (fX12_bad_J26.eq_1 ..) ?_
                                refine T_if1 (by decide +kernel) ?_
                                refine T_let 0 ((z_up_k (by decide)).trans ((z_up_k (by decide)).trans (by decide +kernel))) ?_
                                refine T_if1 (by decide) ?_
                                refine T_of (fX12_bad_J38.eq_1 ..) ?_
                                refine T_if1 (by decide) ?_
                                refine T_rI ?_
                                refine T_if1 (by decide) ?_
                                refine T_if1 (by decide +kernel) ?_
                                refine T_bN ?_
                                refine T_of (fX12_laysAll.eq_1 ..) ?_
                                refine T_if1 (by decide +kernel) ?_
                                refine T_bN ?_
                                refine T_of (fX12_freshens.eq_1 ..) ?_
                                refine T_if1 (by decide +kernel) ?_
                                refine T_let 0 ((z_up_k (by decide)).trans ((z_up_k (by decide)).trans (by decide +kernel))) ?_
                                refine T_if1 (by decide) ?_
                                refine T_of (fX12_freshens_L10.eq_2 ..) ?_
                                refine T_if1 (by decide +kernel) ?_
                                refine T_let 0 ((z_up_k (by decide)).trans ((z_up_k (by decide)).trans (by decide +kernel))) ?_
                                refine T_if1 (by decide) ?_
                                refine T_if1 (by decide +kernel) ?_
                                refine T_bN ?_
                                refine T_of (fX12_laysPairs.eq_1 ..) ?_
                                refine T_if1 (by decide +kernel) ?_
                                refine T_up0 ((z_up_k (by decide)).trans ((z_up_k (by decide)).trans (by decide +kernel))) ?_
                                refine T_if1 (by decide +kernel) ?_
                                refine T_up0 ((z_up_k (by decide)).trans ((z_up_k (by decide)).trans (by decide +kernel))) ?_
                                refine T_of (fX12_laysPairs_L14.eq_2 ..) ?_
                                refine T_if1 (by decide +kernel) ?_
                                refine T_let 0 ((z_up_k (by decide)).trans ((z_up_k (by decide)).trans (by decide +kernel))) ?_
                                refine T_if1 (by decide) ?_
                                refine T_rN ?_
                                refine T_if1 (by decide +kernel) ?_
                                refine T_up ?_
                                refine T_if1 (by decide +kernel) ?_
                                refine T_up0 ((z_up_j (by decide)).trans ((z_up_k (by decide)).trans ((z_up_k (by decide)).trans (by decide +kernel)))) ?_
                                refine T_rN ?_
                                refine T_if1 (by decide +kernel) ?_
                                refine T_let 0 ((z_up_j (by decide)).trans ((z_up_k (by decide)).trans ((z_up_k (by decide)).trans (by decide +kernel)))) ?_
                                refine T_if1 (by decide) ?_
                                refine T_if1 (by decide +kernel) ?_
                                refine T_let 312 (by decide +kernel) ?_
                                refine T_if1 (by decide +kernel) ?_
                                refine T_let 120 ((z_up_k (by decide)).trans ((z_up_k (by decide)).trans ((z_up_k (by decide)).trans (by decide +kernel)))) ?_
                                refine T_if1 (by decide +kernel) ?_
                                refine T_let 312 (by decide +kernel) ?_
                                refine T_if1 (by decide +kernel) ?_
                                refine T_let 0 ((z_up_k (by decide)).trans ((z_up_k (by decide)).trans ((z_up_k (by decide)).trans (by decide +kernel)))) ?_
                                refine T_if1 (by decide +kernel) ?_
                                refine T_bI ?_
                                refine T_of (fX12_breaks.eq_1 ..) ?_
                                refine T_if1 (by decide) ?_
                                refine T_of (fX12_breaks_L15.eq_2 ..) ?_
                                refine T_if1 (by decide +kernel) ?_
                                refine T_let 0 ((z_up_j (by decide)).trans ((z_up_k (by decide)).trans ((z_up_k (by decide)).trans (by decide +kernel)))) ?_
                                refine T_if1 (by decide) ?_
                                refine T_if1 (by decide +kernel) ?_
                                refine T_let 3438 (by decide +kernel) ?_
                                refine T_if1 (by decide +kernel) ?_
                                refine T_let 0 ((z_up_j (by decide)).trans ((z_up_k (by decide)).trans ((z_up_k (by decide)).trans (by decide +kernel)))) ?_
                                refine T_if1 (by decide +kernel) ?_
                                refine T_up0 ((z_up_k (by decide)).trans ((z_up_k (by decide)).trans ((z_up_k (by decide)).trans (by decide +kernel)))) ?_
                                refine T_rI ?_
                                refine T_if1 (by decide +kernel) ?_
                                refine T_up0 ((z_up_j (by decide)).trans ((z_up_k (by decide)).trans ((z_up_k (by decide)).trans (by decide +kernel)))) ?_
                                refine T_if1 (by decide +kernel) ?_
                                refine T_up0 ((z_up_j (by decide)).trans ((z_up_k (by decide)).trans ((z_up_k (by decide)).trans (by decide +kernel)))) ?_
                                refine T_of (fX12_laysAll_L39.eq_2 ..) ?_
                                refine T_if1 (by decide +kernel) ?_
                                refine T_let 0 ((z_up_j (by decide)).trans ((z_up_k (by decide)).trans ((z_up_k (by decide)).trans (by decide +kernel)))) ?_
                                refine T_if1 (by decide) ?_
                                refine T_if1 (by decide +kernel) ?_
                                refine T_up ?_
                                refine T_rN ?_
                                refine T_if0 (by decide) ?_
                                refine T_if0 (by decide) ?_
                                refine T_if0 (by decide) ?_
                                refine T_if0 (by decide) ?_
                                refine T_if0 (by decide) ?_
                                refine T_if0 (by decide) ?_
                                refine T_if0 (by decide) ?_
                                refine T_if0 (by decide) ?_
                                refine T_if0 (by decide) ?_
                                refine T_if0 (by decide) ?_
                                refine T_if0 (by decide) ?_
                                refine T_if0 (by decide) ?_
                                refine T_if1 (by decide) ?_
                                refine T_if1 (by decide +kernel) ?_
                                refine T_let 312 (by decide +kernel) ?_
                                refine T_let 6 (by decide +kernel) ?_
                                refine T_if1 (by decide +kernel) ?_
                                refine T_let 0 ((z_up_k (by decide)).trans ((z_up_k (by decide)).trans ((z_up_k (by decide)).trans ((z_up_k (by decide)).trans (by decide +kernel))))) ?_
                                refine T_rL ?_
                                refine T_if1 (by decide +kernel) ?_
                                refine T_bI ?_
                                refine T_of (fX12_thrown.eq_1 ..) ?_
                                refine T_if1 (by decide +kernel) ?_
                                refine T_let 0 ((z_up_j (by decide)).trans ((z_up_j (by decide)).trans ((z_up_k (by decide)).trans ((z_up_k (by decide)).trans (by decide +kernel))))) ?_
                                refine T_rI ?_
                                refine T_if1 (by decide) ?_
                                refine T_if0 (by decide) ?_
                                refine T_if1 (by decide +kernel) ?_
                                refine T_let 0 ((z_up_k (by decide)).trans ((z_up_k (by decide)).trans ((z_up_k (by decide)).trans ((z_up_k (by decide)).trans (by decide +kernel))))) ?_
                                refine T_let 0 (by decide +kernel) ?_
                                refine T_if1 (by decide) ?_
                                refine T_of (fL_law_J587.eq_1 ..) ?_
                                refine T_of (fL_law_J2073.eq_1 ..) ?_
                                refine T_let 6 (by decide +kernel) ?_
                                exact hr _
                              · refine T_ite (fun h16 => ?_) (fun h16 => ?_)
                                · subst h16
                                  refine T_if1 (by decide +kernel) ?_
                                  refine T_let 33 (by decide +kernel) ?_
                                  refine T_if1 (by decide +kernel) ?_
                                  refine T_let 0 ((z_up_k (by decide)).trans ((z_up_k (by decide)).trans (by decide +kernel))) ?_
                                  refine T_rcL ?_
                                  refine T_if1 (by decide +kernel) ?_
                                  refine T_up0 ((z_up_k (by decide)).trans ((z_up_k (by decide)).trans (by decide +kernel))) ?_
                                  refine T_rI ?_
                                  refine T_let 1 (by decide +kernel) ?_
                                  refine T_if1 (by decide) ?_
                                  refine T_let 13 q1 ?_
                                  refine T_if1 (by decide +kernel) ?_
                                  refine T_bL ?_
                                  refine T_of (fX12_told.eq_1 ..) ?_
                                  refine T_if1 (by decide +kernel) ?_
                                  refine T_up0 ((z_up_k (by decide)).trans ((z_up_k (by decide)).trans (by decide +kernel))) ?_
                                  refine T_bI ?_
                                  refine T_of (fX12_in.eq_1 ..) ?_
                                  refine T_if0 (by decide) ?_
                                  refine T_if0 (by decide) ?_
                                  refine T_of (fX12_in_J15.eq_1 ..) ?_
                                  refine T_if1 (by decide) ?_
                                  refine T_rI ?_
                                  refine T_if1 (by decide) ?_
                                  refine T_of (fX12_told_J21.eq_1 ..) ?_
                                  refine T_if1 (by decide +kernel) ?_
                                  refine T_bI ?_
                                  refine T_of (fX12_bad.eq_1 ..) ?_
                                  refine T_if1 (by decide) ?_
                                  refine T_of (fX12_bad_J26.eq_1 ..) ?_
                                  refine T_if1 (by decide +kernel) ?_
                                  refine T_let 0 ((z_up_k (by decide)).trans ((z_up_k (by decide)).trans (by decide +kernel))) ?_
                                  refine T_if1 (by decide) ?_
                                  refine T_of (fX12_bad_J38.eq_1 ..) ?_
                                  refine T_if1 (by decide) ?_
                                  refine T_rI ?_
                                  refine T_if1 (by decide) ?_
                                  refine T_if1 (by decide +kernel) ?_
                                  refine T_bN ?_
                                  refine T_of (fX12_laysAll.eq_1 ..) ?_
                                  refine T_if1 (by decide +kernel) ?_
                                  refine T_bN ?_
                                  refine T_of (fX12_freshens.eq_1 ..) ?_
                                  refine T_if1 (by decide +kernel) ?_
                                  refine T_let 0 ((z_up_k (by decide)).trans ((z_up_k (by decide)).trans (by decide +kernel))) ?_
                                  refine T_if1 (by decide) ?_
                                  refine T_of (fX12_freshens_L10.eq_2 ..) ?_
                                  refine T_if1 (by decide +kernel) ?_
                                  refine T_let 0 ((z_up_k (by decide)).trans ((z_up_k (by decide)).trans (by decide +kernel))) ?_
                                  refine T_if1 (by decide) ?_
                                  refine T_if1 (by decide +kernel) ?_
                                  refine T_bN ?_
                                  refine T_of (fX12_laysPairs.eq_1 ..) ?_
                                  refine T_if1 (by decide +kernel) ?_
                                  refine T_up0 ((z_up_k (by decide)).trans ((z_up_k (by decide)).trans (by decide +kernel))) ?_
                                  refine T_if1 (by decide +kernel) ?_
                                  refine T_up0 ((z_up_k (by decide)).trans ((z_up_k (by decide)).trans (by decide +kernel))) ?_
                                  refine T_of (fX12_laysPairs_L14.eq_2 ..) ?_
                                  refine T_if1 (by decide +kernel) ?_
                                  refine T_let 0 ((z_up_k (by decide)).trans ((z_up_k (by decide)).trans (by decide +kernel))) ?_
                                  refine T_if1 (by decide) ?_
                                  refine T_rN ?_
                                  refine T_if1 (by decide +kernel) ?_
                                  refine T_up ?_
                                  refine T_if1 (by decide +kernel) ?_
                                  refine T_up0 ((z_up_j (by decide)).trans ((z_up_k (by decide)).trans ((z_up_k (by decide)).trans (by decide +kernel)))) ?_
                                  refine T_rN ?_
                                  refine T_if1 (by decide +kernel) ?_
                                  refine T_let 0 ((z_up_j (by decide)).trans ((z_up_k (by decide)).trans ((z_up_k (by decide)).trans (by decide +kernel)))) ?_
                                  refine T_if1 (by decide) ?_
                                  refine T_if1 (by decide +kernel) ?_
                                  refine T_let 312 (by decide +kernel) ?_
                                  refine T_if1 (by decide +kernel) ?_
                                  refine T_let 120 ((z_up_k (by decide)).trans ((z_up_k (by decide)).trans ((z_up_k (by decide)).trans (by decide +kernel)))) ?_
                                  refine T_if1 (by decide +kernel) ?_
                                  refine T_let 312 (by decide +kernel) ?_
                                  refine T_if1 (by decide +kernel) ?_
                                  refine T_let 0 ((z_up_k (by decide)).trans ((z_up_k (by decide)).trans ((z_up_k (by decide)).trans (by decide +kernel)))) ?_
                                  refine T_if1 (by decide +kernel) ?_
                                  refine T_bI ?_
                                  refine T_of (fX12_breaks.eq_1 ..) ?_
                                  refine T_if1 (by decide) ?_
                                  refine T_of (fX12_breaks_L15.eq_2 ..) ?_
                                  refine T_if1 (by decide +kernel) ?_
                                  refine T_let 0 ((z_up_j (by decide)).trans ((z_up_k (by decide)).trans ((z_up_k (by decide)).trans (by decide +kernel)))) ?_
                                  refine T_if1 (by decide) ?_
                                  refine T_if1 (by decide +kernel) ?_
                                  refine T_let 3438 (by decide +kernel) ?_
                                  refine T_if1 (by decide +kernel) ?_
                                  refine T_let 0 ((z_up_j (by decide)).trans ((z_up_k (by decide)).trans ((z_up_k (by decide)).trans (by decide +kernel)))) ?_
                                  refine T_if1 (by decide +kernel) ?_
                                  refine T_up0 ((z_up_k (by decide)).trans ((z_up_k (by decide)).trans ((z_up_k (by decide)).trans (by decide +kernel)))) ?_
                                  refine T_rI ?_
                                  refine T_if1 (by decide +kernel) ?_
                                  refine T_up0 ((z_up_j (by decide)).trans ((z_up_k (by decide)).trans ((z_up_k (by decide)).trans (by decide +kernel)))) ?_
                                  refine T_if1 (by decide +kernel) ?_
                                  refine T_up0 ((z_up_j (by decide)).trans ((z_up_k (by decide)).trans ((z_up_k (by decide)).trans (by decide +kernel)))) ?_
                                  refine T_of (fX12_laysAll_L39.eq_2 ..) ?_
                                  refine T_if1 (by decide +kernel) ?_
                                  refine T_let 0 ((z_up_j (by decide)).trans ((z_up_k (by decide)).trans ((z_up_k (by decide)).trans (by decide +kernel)))) ?_
                                  refine T_if1 (by decide) ?_
                                  refine T_if1 (by decide +kernel) ?_
                                  refine T_up ?_
                                  refine T_rN ?_
                                  refine T_if0 (by decide) ?_
                                  refine T_if0 (by decide) ?_
                                  refine T_if0 (by decide) ?_
                                  refine T_if0 (by decide) ?_
                                  refine T_if0 (by decide) ?_
                                  refine T_if0 (by decide) ?_
                                  refine T_if0 (by decide) ?_
                                  refine T_if0 (by decide) ?_
                                  refine T_if0 (by decide) ?_
                                  refine T_if0 (by decide) ?_
                                  refine T_if0 (by decide) ?_
                                  refine T_if0 (by decide) ?_
                                  refine T_if0 (by decide) ?_
                                  refine T_if1 (by decide) ?_
                                  refine T_if1 (by decide +kernel) ?_
                                  refine T_let 0 ((z_up_j (by decide)).trans ((z_up_j (by decide)).trans ((z_up_k (by decide)).trans ((z_up_k (by decide)).trans (by decide +kernel))))) ?_
                                  refine T_rL ?_
                                  refine T_if1 (by decide +kernel) ?_
                                  refine T_bI ?_
                                  refine T_of (fX12_thrown.eq_1 ..) ?_
                                  refine T_if1 (by decide +kernel) ?_
                                  refine T_let 0 ((z_up_j (by decide)).trans ((z_up_j (by decide)).trans ((z_up_k (by decide)).trans ((z_up_k (by decide)).trans (by decide +kernel))))) ?_
                                  refine T_rI ?_
                                  refine T_if1 (by decide) ?_
                                  refine T_if0 (by decide) ?_
                                  refine T_if1 (by decide +kernel) ?_
                                  refine T_let 0 ((z_up_k (by decide)).trans ((z_up_k (by decide)).trans ((z_up_k (by decide)).trans ((z_up_k (by decide)).trans (by decide +kernel))))) ?_
                                  refine T_let 0 (by decide +kernel) ?_
                                  refine T_if1 (by decide) ?_
                                  refine T_of (fL_law_J587.eq_1 ..) ?_
                                  refine T_of (fL_law_J2073.eq_1 ..) ?_
                                  refine T_let 6 (by decide +kernel) ?_
                                  exact hr _
                                · refine T_ite (fun h17 => ?_) (fun h17 => ?_)
                                  · subst h17
                                    refine T_if1 (by decide +kernel) ?_
                                    refine T_let 0 ((z_up_j (by decide)).trans ((z_up_j (by decide)).trans (by decide +kernel))) ?_
                                    refine T_rcL ?_
                                    refine T_if1 (by decide +kernel) ?_
                                    refine T_up0 ((z_up_k (by decide)).trans ((z_up_k (by decide)).trans (by decide +kernel))) ?_
                                    refine T_rI ?_
                                    refine T_let 1 (by decide +kernel) ?_
                                    refine T_if1 (by decide) ?_
                                    refine T_let 14 q1 ?_
                                    refine T_if1 (by decide +kernel) ?_
                                    refine T_bL ?_
                                    refine T_of (fX12_told.eq_1 ..) ?_
                                    refine T_if1 (by decide +kernel) ?_
                                    refine T_up0 ((z_up_k (by decide)).trans ((z_up_k (by decide)).trans (by decide +kernel))) ?_
                                    refine T_bI ?_
                                    refine T_of (fX12_in.eq_1 ..) ?_
                                    refine T_if0 (by decide) ?_
                                    refine T_if0 (by decide) ?_
                                    refine T_of (fX12_in_J15.eq_1 ..) ?_
                                    refine T_if1 (by decide) ?_
                                    refine T_rI ?_
                                    refine T_if1 (by decide) ?_
                                    refine T_of (fX12_told_J21.eq_1 ..) ?_
                                    refine T_if1 (by decide +kernel) ?_
                                    refine T_bI ?_
                                    refine T_of (fX12_bad.eq_1 ..) ?_
                                    refine T_if1 (by decide) ?_
                                    refine T_of (fX12_bad_J26.eq_1 ..) ?_
                                    refine T_if1 (by decide +kernel) ?_
                                    refine T_let 0 ((z_up_k (by decide)).trans ((z_up_k (by decide)).trans (by decide +kernel))) ?_
                                    refine T_if1 (by decide) ?_
                                    refine T_of (fX12_bad_J38.eq_1 ..) ?_
                                    refine T_if1 (by decide) ?_
                                    refine T_rI ?_
                                    refine T_if1 (by decide) ?_
                                    refine T_if1 (by decide +kernel) ?_
                                    refine T_bN ?_
                                    refine T_of (fX12_laysAll.eq_1 ..) ?_
                                    refine T_if1 (by decide +kernel) ?_
                                    refine T_bN ?_
                                    refine T_of (fX12_freshens.eq_1 ..) ?_
                                    refine T_if1 (by decide +kernel) ?_
                                    refine T_let 0 ((z_up_k (by decide)).trans ((z_up_k (by decide)).trans (by decide +kernel))) ?_
                                    refine T_if1 (by decide) ?_
                                    refine T_of (fX12_freshens_L10.eq_2 ..) ?_
                                    refine T_if1 (by decide +kernel) ?_
                                    refine T_let 0 ((z_up_k (by decide)).trans ((z_up_k (by decide)).trans (by decide +kernel))) ?_
                                    refine T_if1 (by decide) ?_
                                    refine T_if1 (by decide +kernel) ?_
                                    refine T_bN ?_
                                    refine T_of (fX12_laysPairs.eq_1 ..) ?_
                                    refine T_if1 (by decide +kernel) ?_
                                    refine T_up0 ((z_up_k (by decide)).trans ((z_up_k (by decide)).trans (by decide +kernel))) ?_
                                    refine T_if1 (by decide +kernel) ?_
                                    refine T_up0 ((z_up_k (by decide)).trans ((z_up_k (by decide)).trans (by decide +kernel))) ?_
                                    refine T_of (fX12_laysPairs_L14.eq_2 ..) ?_
                                    refine T_if1 (by decide +kernel) ?_
                                    refine T_let 0 ((z_up_k (by decide)).trans ((z_up_k (by decide)).trans (by decide +kernel))) ?_
                                    refine T_if1 (by decide) ?_
                                    refine T_rN ?_
                                    refine T_if1 (by decide +kernel) ?_
                                    refine T_up ?_
                                    refine T_if1 (by decide +kernel) ?_
                                    refine T_up0 ((z_up_j (by decide)).trans ((z_up_k (by decide)).trans ((z_up_k (by decide)).trans (by decide +kernel)))) ?_
                                    refine T_rN ?_
                                    refine T_if1 (by decide +kernel) ?_
                                    refine T_let 0 ((z_up_j (by decide)).trans ((z_up_k (by decide)).trans ((z_up_k (by decide)).trans (by decide +kernel)))) ?_
                                    refine T_if1 (by decide) ?_
                                    refine T_if1 (by decide +kernel) ?_
                                    refine T_let 312 (by decide +kernel) ?_
                                    refine T_if1 (by decide +kernel) ?_
                                    refine T_let 120 ((z_up_k (by decide)).trans ((z_up_k (by decide)).trans ((z_up_k (by decide)).trans (by decide +kernel)))) ?_
                                    refine T_if1 (by decide +kernel) ?_
                                    refine T_let 312 (by decide +kernel) ?_
                                    refine T_if1 (by decide +kernel) ?_
                                    refine T_let 0 ((z_up_k (by decide)).trans ((z_up_k (by decide)).trans ((z_up_k (by decide)).trans (by decide +kernel)))) ?_
                                    refine T_if1 (by decide +kernel) ?_
                                    refine T_bI ?_
                                    refine T_of (fX12_breaks.eq_1 ..) ?_
                                    refine T_if1 (by decide) ?_
                                    refine T_of (fX12_breaks_L15.eq_2 ..) ?_
                                    refine T_if1 (by decide +kernel) ?_
                                    refine T_let 0 ((z_up_j (by decide)).trans ((z_up_k (by decide)).trans ((z_up_k (by decide)).trans (by decide +kernel)))) ?_
                                    refine T_if1 (by decide) ?_
                                    refine T_if1 (by decide +kernel) ?_
                                    refine T_let 3438 (by decide +kernel) ?_
                                    refine T_if1 (by decide +kernel) ?_
                                    refine T_let 0 ((z_up_j (by decide)).trans ((z_up_k (by decide)).trans ((z_up_k (by decide)).trans (by decide +kernel)))) ?_
                                    refine T_if1 (by decide +kernel) ?_
                                    refine T_up0 ((z_up_k (by decide)).trans ((z_up_k (by decide)).trans ((z_up_k (by decide)).trans (by decide +kernel)))) ?_
                                    refine T_rI ?_
                                    refine T_if1 (by decide +kernel) ?_
                                    refine T_up0 ((z_up_j (by decide)).trans ((z_up_k (by decide)).trans ((z_up_k (by decide)).trans (by decide +kernel)))) ?_
                                    refine T_if1 (by decide +kernel) ?_
                                    refine T_up0 ((z_up_j (by decide)).trans ((z_up_k (by decide)).trans ((z_up_k (by decide)).trans (by decide +kernel)))) ?_
                                    refine T_of (fX12_laysAll_L39.eq_2 ..) ?_
                                    refine T_if1 (by decide +kernel) ?_
                                    refine T_let 0 ((z_up_j (by decide)).trans ((z_up_k (by decide)).trans ((z_up_k (by decide)).trans (by decide +kernel)))) ?_
                                    refine T_if1 (by decide) ?_
                                    refine T_if1 (by decide +kernel) ?_
                                    refine T_up ?_
                                    refine T_rN ?_
                                    refine T_if0 (by decide) ?_
                                    refine T_if0 (by decide) ?_
                                    refine T_if0 (by decide) ?_
                                    refine T_if0 (by decide) ?_
                                    refine T_if0 (by decide) ?_
                                    refine T_if0 (by decide) ?_
                                    refine T_if0 (by decide) ?_
                                    refine T_if0 (by decide) ?_
                                    refine T_if0 (by decide) ?_
                                    refine T_if0 (by decide) ?_
                                    refine T_if0 (by decide) ?_
                                    refine T_if0 (by decide) ?_
                                    refine T_if0 (by decide) ?_
                                    refine T_if0 (by decide) ?_
                                    refine T_if1 (by decide) ?_
                                    refine T_if1 (by decide +kernel) ?_
                                    refine T_let 0 ((z_up_j (by decide)).trans ((z_up_j (by decide)).trans ((z_up_k (by decide)).trans ((z_up_k (by decide)).trans (by decide +kernel))))) ?_
                                    refine T_rL ?_
                                    refine T_if1 (by decide +kernel) ?_
                                    refine T_bI ?_
                                    refine T_of (fX12_thrown.eq_1 ..) ?_
                                    refine T_if1 (by decide +kernel) ?_
                                    refine T_let 0 ((z_up_j (by decide)).trans ((z_up_j (by decide)).trans ((z_up_k (by decide)).trans ((z_up_k (by decide)).trans (by decide +kernel))))) ?_
                                    refine T_rI ?_
                                    refine T_if1 (by decide) ?_
                                    refine T_if0 (by decide) ?_
                                    refine T_if1 (by decide +kernel) ?_
                                    refine T_let 0 ((z_up_k (by decide)).trans ((z_up_k (by decide)).trans ((z_up_k (by decide)).trans ((z_up_k (by decide)).trans (by decide +kernel))))) ?_
                                    refine T_let 0 (by decide +kernel) ?_
                                    refine T_if1 (by decide) ?_
                                    refine T_of (fL_law_J587.eq_1 ..) ?_
                                    refine T_of (fL_law_J2073.eq_1 ..) ?_
                                    refine T_let 6 (by decide +kernel) ?_
                                    exact hr _
                                  · refine T_ite (fun h18 => ?_) (fun h18 => ?_)
                                    · subst h18
                                      refine T_if1 (by decide +kernel) ?_
                                      refine T_let 240 (by decide +kernel) ?_
                                      refine T_if1 (by decide +kernel) ?_
                                      refine T_let 2 (by decide +kernel) ?_
                                      refine T_if1 (by decide +kernel) ?_
                                      refine T_bI ?_
                                      refine T_of (fX7_get.eq_1 ..) ?_
                                      refine T_if0 (by decide) ?_
                                      refine T_if1 (by decide +kernel) ?_
                                      refine T_let 3 (by decide +kernel) ?_
                                      refine T_if1 (by decide +kernel) ?_
                                      refine T_let 9 (by decide +kernel) ?_
                                      refine T_if0 (by decide) ?_
                                      refine T_if1 (by decide +kernel) ?_
                                      refine T_let 3 (by decide +kernel) ?_
                                      refine T_if1 (by decide +kernel) ?_
                                      refine T_let 120 ((z_up_k (by decide)).trans ((z_up_k (by decide)).trans (by decide +kernel))) ?_
                                      refine T_of (fX7_get_J23.eq_1 ..) ?_
                                      refine T_rI ?_
                                      refine T_if1 (by decide +kernel) ?_
                                      refine T_bI ?_
                                      refine T_of (fX1_tooLong.eq_1 ..) ?_
                                      refine T_of (fX1_tooLong_L4.eq_2 ..) ?_
                                      refine T_if1 (by decide +kernel) ?_
                                      refine T_let 0 ((z_up_k (by decide)).trans ((z_up_k (by decide)).trans (by decide +kernel))) ?_
                                      refine T_if1 (by decide) ?_
                                      refine T_rI ?_
                                      refine T_rcL ?_
                                      refine T_if1 (by decide +kernel) ?_
                                      refine T_up0 ((z_up_k (by decide)).trans ((z_up_k (by decide)).trans (by decide +kernel))) ?_
                                      refine T_rI ?_
                                      refine T_let 1 (by decide +kernel) ?_
                                      refine T_if1 (by decide) ?_
                                      refine T_let 15 q1 ?_
                                      refine T_if1 (by decide +kernel) ?_
                                      refine T_bL ?_
                                      refine T_of (fX12_told.eq_1 ..) ?_
                                      refine T_if1 (by decide +kernel) ?_
                                      refine T_up0 ((z_up_k (by decide)).trans ((z_up_k (by decide)).trans (by decide +kernel))) ?_
                                      refine T_bI ?_
                                      refine T_of (fX12_in.eq_1 ..) ?_
                                      refine T_if0 (by decide) ?_
                                      refine T_if0 (by decide) ?_
                                      refine T_of (fX12_in_J15.eq_1 ..) ?_
                                      refine T_if1 (by decide) ?_
                                      refine T_rI ?_
                                      refine T_if1 (by decide) ?_
                                      refine T_of (fX12_told_J21.eq_1 ..) ?_
                                      refine T_if1 (by decide +kernel) ?_
                                      refine T_bI ?_
                                      refine T_of (fX12_bad.eq_1 ..) ?_
                                      refine T_if1 (by decide) ?_
                                      refine T_of (fX12_bad_J26.eq_1 ..) ?_
                                      refine T_if1 (by decide +kernel) ?_
                                      refine T_let 0 ((z_up_k (by decide)).trans ((z_up_k (by decide)).trans (by decide +kernel))) ?_
                                      refine T_if1 (by decide) ?_
                                      refine T_of (fX12_bad_J38.eq_1 ..) ?_
                                      refine T_if1 (by decide) ?_
                                      refine T_rI ?_
                                      refine T_if1 (by decide) ?_
                                      refine T_if1 (by decide +kernel) ?_
                                      refine T_bN ?_
                                      refine T_of (fX12_laysAll.eq_1 ..) ?_
                                      refine T_if1 (by decide +kernel) ?_
                                      refine T_bN ?_
                                      refine T_of (fX12_freshens.eq_1 ..) ?_
                                      refine T_if1 (by decide +kernel) ?_
                                      refine T_let 0 ((z_up_k (by decide)).trans ((z_up_k (by decide)).trans (by decide +kernel))) ?_
                                      refine T_if1 (by decide) ?_
                                      refine T_of (fX12_freshens_L10.eq_2 ..) ?_
                                      refine T_if1 (by decide +kernel) ?_
                                      refine T_let 0 ((z_up_k (by decide)).trans ((z_up_k (by decide)).trans (by decide +kernel))) ?_
                                      refine T_if1 (by decide) ?_
                                      refine T_if1 (by decide +kernel) ?_
                                      refine T_bN ?_
                                      refine T_of (fX12_laysPairs.eq_1 ..) ?_
                                      refine T_if1 (by decide +kernel) ?_
                                      refine T_up0 ((z_up_k (by decide)).trans ((z_up_k (by decide)).trans (by decide +kernel))) ?_
                                      refine T_if1 (by decide +kernel) ?_
                                      refine T_up0 ((z_up_k (by decide)).trans ((z_up_k (by decide)).trans (by decide +kernel))) ?_
                                      refine T_of (fX12_laysPairs_L14.eq_2 ..) ?_
                                      refine T_if1 (by decide +kernel) ?_
                                      refine T_let 0 ((z_up_k (by decide)).trans ((z_up_k (by decide)).trans (by decide +kernel))) ?_
                                      refine T_if1 (by decide) ?_
                                      refine T_rN ?_
                                      refine T_if1 (by decide +kernel) ?_
                                      refine T_up ?_
                                      refine T_if1 (by decide +kernel) ?_
                                      refine T_up0 ((z_up_j (by decide)).trans ((z_up_k (by decide)).trans ((z_up_k (by decide)).trans (by decide +kernel)))) ?_
                                      refine T_rN ?_
                                      refine T_if1 (by decide +kernel) ?_
                                      refine T_let 0 ((z_up_j (by decide)).trans ((z_up_k (by decide)).trans ((z_up_k (by decide)).trans (by decide +kernel)))) ?_
                                      refine T_if1 (by decide) ?_
                                      refine T_if1 (by decide +kernel) ?_
                                      refine T_let 312 (by decide +kernel) ?_
                                      refine T_if1 (by decide +kernel) ?_
                                      refine T_let 120 ((z_up_k (by decide)).trans ((z_up_k (by decide)).trans ((z_up_k (by decide)).trans (by decide +kernel)))) ?_
                                      refine T_if1 (by decide +kernel) ?_
                                      refine T_let 312 (by decide +kernel) ?_
                                      refine T_if1 (by decide +kernel) ?_
                                      refine T_let 0 ((z_up_k (by decide)).trans ((z_up_k (by decide)).trans ((z_up_k (by decide)).trans (by decide +kernel)))) ?_
                                      refine T_if1 (by decide +kernel) ?_
                                      refine T_bI ?_
                                      refine T_of (fX12_breaks.eq_1 ..) ?_
                                      refine T_if1 (by decide) ?_
                                      refine T_of (fX12_breaks_L15.eq_2 ..) ?_
                                      refine T_if1 (by decide +kernel) ?_
                                      refine T_let 0 ((z_up_j (by decide)).trans ((z_up_k (by decide)).trans ((z_up_k (by decide)).trans (by decide +kernel)))) ?_
                                      refine T_if1 (by decide) ?_
                                      refine T_if1 (by decide +kernel) ?_
                                      refine T_let 3438 (by decide +kernel) ?_
                                      refine T_if1 (by decide +kernel) ?_
                                      refine T_let 0 ((z_up_j (by decide)).trans ((z_up_k (by decide)).trans ((z_up_k (by decide)).trans (by decide +kernel)))) ?_
                                      refine T_if1 (by decide +kernel) ?_
                                      refine T_up0 ((z_up_k (by decide)).trans ((z_up_k (by decide)).trans ((z_up_k (by decide)).trans (by decide +kernel)))) ?_
                                      refine T_rI ?_
                                      refine T_if1 (by decide +kernel) ?_
                                      refine T_up0 ((z_up_j (by decide)).trans ((z_up_k (by decide)).trans ((z_up_k (by decide)).trans (by decide +kernel)))) ?_
                                      refine T_if1 (by decide +kernel) ?_
                                      refine T_up0 ((z_up_j (by decide)).trans ((z_up_k (by decide)).trans ((z_up_k (by decide)).trans (by decide +kernel)))) ?_
                                      refine T_of (fX12_laysAll_L39.eq_2 ..) ?_
                                      refine T_if1 (by decide +kernel) ?_
                                      refine T_let 0 ((z_up_j (by decide)).trans ((z_up_k (by decide)).trans ((z_up_k (by decide)).trans (by decide +kernel)))) ?_
                                      refine T_if1 (by decide) ?_
                                      refine T_if1 (by decide +kernel) ?_
                                      refine T_up ?_
                                      refine T_rN ?_
                                      refine T_if0 (by decide) ?_
                                      refine T_if0 (by decide) ?_
                                      refine T_if0 (by decide) ?_
                                      refine T_if0 (by decide) ?_
                                      refine T_if0 (by decide) ?_
                                      refine T_if0 (by decide) ?_
                                      refine T_if0 (by decide) ?_
                                      refine T_if0 (by decide) ?_
                                      refine T_if0 (by decide) ?_
                                      refine T_if0 (by decide) ?_
                                      refine T_if0 (by decide) ?_
                                      refine T_if0 (by decide) ?_
                                      refine T_if0 (by decide) ?_
                                      refine T_if0 (by decide) ?_
                                      refine T_if0 (by decide) ?_
                                      refine T_if1 (by decide) ?_
                                      refine T_if1 (by decide +kernel) ?_
                                      refine T_bI ?_
                                      refine T_of (fX12_unfit.eq_1 ..) ?_
                                      refine T_of (fX12_unfit_L4.eq_2 ..) ?_
                                      refine T_if1 (by decide +kernel) ?_
                                      refine T_let 0 ((z_up_j (by decide)).trans ((z_up_j (by decide)).trans ((z_up_k (by decide)).trans ((z_up_k (by decide)).trans (by decide +kernel))))) ?_
                                      refine T_if1 (by decide) ?_
                                      refine T_rI ?_
                                      refine T_rL ?_
                                      refine T_if1 (by decide +kernel) ?_
                                      refine T_bI ?_
                                      refine T_of (fX12_thrown.eq_1 ..) ?_
                                      refine T_if1 (by decide +kernel) ?_
                                      refine T_let 0 ((z_up_j (by decide)).trans ((z_up_j (by decide)).trans ((z_up_k (by decide)).trans ((z_up_k (by decide)).trans (by decide +kernel))))) ?_
                                      refine T_rI ?_
                                      refine T_if1 (by decide) ?_
                                      refine T_if0 (by decide) ?_
                                      refine T_if1 (by decide +kernel) ?_
                                      refine T_let 0 ((z_up_k (by decide)).trans ((z_up_k (by decide)).trans ((z_up_k (by decide)).trans ((z_up_k (by decide)).trans (by decide +kernel))))) ?_
                                      refine T_let 0 (by decide +kernel) ?_
                                      refine T_if1 (by decide) ?_
                                      refine T_of (fL_law_J587.eq_1 ..) ?_
                                      refine T_of (fL_law_J2073.eq_1 ..) ?_
                                      refine T_let 6 (by decide +kernel) ?_
                                      exact hr _
                                    · refine T_ite (fun h19 => ?_) (fun h19 => ?_)
                                      · subst h19
                                        refine T_if1 (by decide +kernel) ?_
                                        refine T_let 2 (by decide +kernel) ?_
                                        refine T_if1 (by decide +kernel) ?_
                                        refine T_bI ?_
                                        refine T_of (fX7_get.eq_1 ..) ?_
                                        refine T_if0 (by decide) ?_
                                        refine T_if1 (by decide +kernel) ?_
                                        refine T_let 3 (by decide +kernel) ?_
                                        refine T_if1 (by decide +kernel) ?_
                                        refine T_let 9 (by decide +kernel) ?_
                                        refine T_if0 (by decide) ?_
                                        refine T_if1 (by decide +kernel) ?_
                                        refine T_let 3 (by decide +kernel) ?_
                                        refine T_if1 (by decide +kernel) ?_
                                        refine T_let 0 ((z_up_k (by decide)).trans ((z_up_k (by decide)).trans (by decide +kernel))) ?_
                                        refine T_of (fX7_get_J23.eq_1 ..) ?_
                                        refine T_rI ?_
                                        refine T_rcL ?_
                                        refine T_if1 (by decide +kernel) ?_
                                        refine T_up0 ((z_up_k (by decide)).trans ((z_up_k (by decide)).trans (by decide +kernel))) ?_
                                        refine T_rI ?_
                                        refine T_let 1 (by decide +kernel) ?_
                                        refine T_if1 (by decide) ?_
                                        refine T_let 16 q1 ?_
                                        refine T_if1 (by decide +kernel) ?_
                                        refine T_bL ?_
                                        refine T_of (fX12_told.eq_1 ..) ?_
                                        refine T_if1 (by decide +kernel) ?_
                                        refine T_up0 ((z_up_k (by decide)).trans ((z_up_k (by decide)).trans (by decide +kernel))) ?_
                                        refine T_bI ?_
                                        refine T_of (fX12_in.eq_1 ..) ?_
                                        refine T_if0 (by decide) ?_
                                        refine T_if0 (by decide) ?_
                                        refine T_of (fX12_in_J15.eq_1 ..) ?_
                                        refine T_if1 (by decide) ?_
                                        refine T_rI ?_
                                        refine T_if1 (by decide) ?_
                                        refine T_of (fX12_told_J21.eq_1 ..) ?_
                                        refine T_if1 (by decide +kernel) ?_
                                        refine T_bI ?_
                                        refine T_of (fX12_bad.eq_1 ..) ?_
                                        refine T_if1 (by decide) ?_
                                        refine T_of (fX12_bad_J26.eq_1 ..) ?_
                                        refine T_if1 (by decide +kernel) ?_
                                        refine T_let 0 ((z_up_k (by decide)).trans ((z_up_k (by decide)).trans (by decide +kernel))) ?_
                                        refine T_if1 (by decide) ?_
                                        refine T_of (fX12_bad_J38.eq_1 ..) ?_
                                        refine T_if1 (by decide) ?_
                                        refine T_rI ?_
                                        refine T_if1 (by decide) ?_
                                        refine T_if1 (by decide +kernel) ?_
                                        refine T_bN ?_
                                        refine T_of (fX12_laysAll.eq_1 ..) ?_
                                        refine T_if1 (by decide +kernel) ?_
                                        refine T_bN ?_
                                        refine T_of (fX12_freshens.eq_1 ..) ?_
                                        refine T_if1 (by decide +kernel) ?_
                                        refine T_let 0 ((z_up_k (by decide)).trans ((z_up_k (by decide)).trans (by decide +kernel))) ?_
                                        refine T_if1 (by decide) ?_
                                        refine T_of (fX12_freshens_L10.eq_2 ..) ?_
                                        refine T_if1 (by decide +kernel) ?_
                                        refine T_let 0 ((z_up_k (by decide)).trans ((z_up_k (by decide)).trans (by decide +kernel))) ?_
                                        refine T_if1 (by decide) ?_
                                        refine T_if1 (by decide +kernel) ?_
                                        refine T_bN ?_
                                        refine T_of (fX12_laysPairs.eq_1 ..) ?_
                                        refine T_if1 (by decide +kernel) ?_
                                        refine T_up0 ((z_up_k (by decide)).trans ((z_up_k (by decide)).trans (by decide +kernel))) ?_
                                        refine T_if1 (by decide +kernel) ?_
                                        refine T_up0 ((z_up_k (by decide)).trans ((z_up_k (by decide)).trans (by decide +kernel))) ?_
                                        refine T_of (fX12_laysPairs_L14.eq_2 ..) ?_
                                        refine T_if1 (by decide +kernel) ?_
                                        refine T_let 0 ((z_up_k (by decide)).trans ((z_up_k (by decide)).trans (by decide +kernel))) ?_
                                        refine T_if1 (by decide) ?_
                                        refine T_rN ?_
                                        refine T_if1 (by decide +kernel) ?_
                                        refine T_up ?_
                                        refine T_if1 (by decide +kernel) ?_
                                        refine T_up0 ((z_up_j (by decide)).trans ((z_up_k (by decide)).trans ((z_up_k (by decide)).trans (by decide +kernel)))) ?_
                                        refine T_rN ?_
                                        refine T_if1 (by decide +kernel) ?_
                                        refine T_let 0 ((z_up_j (by decide)).trans ((z_up_k (by decide)).trans ((z_up_k (by decide)).trans (by decide +kernel)))) ?_
                                        refine T_if1 (by decide) ?_
                                        refine T_if1 (by decide +kernel) ?_
                                        refine T_let 312 (by decide +kernel) ?_
                                        refine T_if1 (by decide +kernel) ?_
                                        refine T_let 120 ((z_up_k (by decide)).trans ((z_up_k (by decide)).trans ((z_up_k (by decide)).trans (by decide +kernel)))) ?_
                                        refine T_if1 (by decide +kernel) ?_
                                        refine T_let 312 (by decide +kernel) ?_
                                        refine T_if1 (by decide +kernel) ?_
                                        refine T_let 0 ((z_up_k (by decide)).trans ((z_up_k (by decide)).trans ((z_up_k (by decide)).trans (by decide +kernel)))) ?_
                                        refine T_if1 (by decide +kernel) ?_
                                        refine T_bI ?_
                                        refine T_of (fX12_breaks.eq_1 ..) ?_
                                        refine T_if1 (by decide) ?_
                                        refine T_of (fX12_breaks_L15.eq_2 ..) ?_
                                        refine T_if1 (by decide +kernel) ?_
                                        refine T_let 0 ((z_up_j (by decide)).trans ((z_up_k (by decide)).trans ((z_up_k (by decide)).trans (by decide +kernel)))) ?_
                                        refine T_if1 (by decide) ?_
                                        refine T_if1 (by decide +kernel) ?_
                                        refine T_let 3438 (by decide +kernel) ?_
                                        refine T_if1 (by decide +kernel) ?_
                                        refine T_let 0 ((z_up_j (by decide)).trans ((z_up_k (by decide)).trans ((z_up_k (by decide)).trans (by decide +kernel)))) ?_
                                        refine T_if1 (by decide +kernel) ?_
                                        refine T_up0 ((z_up_k (by decide)).trans ((z_up_k (by decide)).trans ((z_up_k (by decide)).trans (by decide +kernel)))) ?_
                                        refine T_rI ?_
                                        refine T_if1 (by decide +kernel) ?_
                                        refine T_up0 ((z_up_j (by decide)).trans ((z_up_k (by decide)).trans ((z_up_k (by decide)).trans (by decide +kernel)))) ?_
                                        refine T_if1 (by decide +kernel) ?_
                                        refine T_up0 ((z_up_j (by decide)).trans ((z_up_k (by decide)).trans ((z_up_k (by decide)).trans (by decide +kernel)))) ?_
                                        refine T_of (fX12_laysAll_L39.eq_2 ..) ?_
                                        refine T_if1 (by decide +kernel) ?_
                                        refine T_let 0 ((z_up_j (by decide)).trans ((z_up_k (by decide)).trans ((z_up_k (by decide)).trans (by decide +kernel)))) ?_
                                        refine T_if1 (by decide) ?_
                                        refine T_if1 (by decide +kernel) ?_
                                        refine T_up ?_
                                        refine T_rN ?_
                                        refine T_if0 (by decide) ?_
                                        refine T_if0 (by decide) ?_
                                        refine T_if0 (by decide) ?_
                                        refine T_if0 (by decide) ?_
                                        refine T_if0 (by decide) ?_
                                        refine T_if0 (by decide) ?_
                                        refine T_if0 (by decide) ?_
                                        refine T_if0 (by decide) ?_
                                        refine T_if0 (by decide) ?_
                                        refine T_if0 (by decide) ?_
                                        refine T_if0 (by decide) ?_
                                        refine T_if0 (by decide) ?_
                                        refine T_if0 (by decide) ?_
                                        refine T_if0 (by decide) ?_
                                        refine T_if0 (by decide) ?_
                                        refine T_if0 (by decide) ?_
                                        refine T_if1 (by decide) ?_
                                        refine T_if1 (by decide +kernel) ?_
                                        refine T_let 312 (by decide +kernel) ?_
                                        refine T_let 7 (by decide +kernel) ?_
                                        refine T_if1 (by decide +kernel) ?_
                                        refine T_let 0 ((z_up_k (by decide)).trans ((z_up_k (by decide)).trans ((z_up_k (by decide)).trans ((z_up_k (by decide)).trans (by decide +kernel))))) ?_
                                        refine T_rL ?_
                                        refine T_if1 (by decide +kernel) ?_
                                        refine T_bI ?_
                                        refine T_of (fX12_thrown.eq_1 ..) ?_
                                        refine T_if1 (by decide +kernel) ?_
                                        refine T_let 0 ((z_up_j (by decide)).trans ((z_up_j (by decide)).trans ((z_up_k (by decide)).trans ((z_up_k (by decide)).trans (by decide +kernel))))) ?_
                                        refine T_rI ?_
                                        refine T_if1 (by decide) ?_
                                        refine T_if0 (by decide) ?_
                                        refine T_if1 (by decide +kernel) ?_
                                        refine T_let 0 ((z_up_k (by decide)).trans ((z_up_k (by decide)).trans ((z_up_k (by decide)).trans ((z_up_k (by decide)).trans (by decide +kernel))))) ?_
                                        refine T_let 0 (by decide +kernel) ?_
                                        refine T_if1 (by decide) ?_
                                        refine T_of (fL_law_J587.eq_1 ..) ?_
                                        refine T_of (fL_law_J2073.eq_1 ..) ?_
                                        refine T_let 6 (by decide +kernel) ?_
                                        exact hr _
                                      · refine T_ite (fun h20 => ?_) (fun h20 => ?_)
                                        · subst h20
                                          refine T_if1 (by decide +kernel) ?_
                                          refine T_let 2 (by decide +kernel) ?_
                                          refine T_if1 (by decide +kernel) ?_
                                          refine T_bI ?_
                                          refine T_of (fX7_get.eq_1 ..) ?_
                                          refine T_if0 (by decide) ?_
                                          refine T_if1 (by decide +kernel) ?_
                                          refine T_let 3 (by decide +kernel) ?_
                                          refine T_if1 (by decide +kernel) ?_
                                          refine T_let 9 (by decide +kernel) ?_
                                          refine T_if0 (by decide) ?_
                                          refine T_if1 (by decide +kernel) ?_
                                          refine T_let 3 (by decide +kernel) ?_
                                          refine T_if1 (by decide +kernel) ?_
                                          refine T_let 4 ((z_up_k (by decide)).trans ((z_up_k (by decide)).trans (by decide +kernel))) ?_
                                          refine T_of (fX7_get_J23.eq_1 ..) ?_
                                          refine T_rI ?_
                                          refine T_rcL ?_
                                          refine T_if1 (by decide +kernel) ?_
                                          refine T_up ?_
                                          refine T_rI ?_
                                          refine T_let 1 (by decide +kernel) ?_
                                          refine T_if1 (by decide) ?_
                                          refine T_let 17 q1 ?_
                                          refine T_if1 (by decide +kernel) ?_
                                          refine T_bL ?_
                                          refine T_of (fX12_told.eq_1 ..) ?_
                                          refine T_if1 (by decide +kernel) ?_
                                          refine T_up0 ((z_up_k (by decide)).trans ((z_up_k (by decide)).trans ((z_up_k (by decide)).trans (by decide +kernel)))) ?_
                                          refine T_bI ?_
                                          refine T_of (fX12_in.eq_1 ..) ?_
                                          refine T_if0 (by decide) ?_
                                          refine T_if0 (by decide) ?_
                                          refine T_of (fX12_in_J15.eq_1 ..) ?_
                                          refine T_if1 (by decide) ?_
                                          refine T_rI ?_
                                          refine T_if1 (by decide) ?_
                                          refine T_of (fX12_told_J21.eq_1 ..) ?_
                                          refine T_if1 (by decide +kernel) ?_
                                          refine T_bI ?_
                                          refine T_of (fX12_bad.eq_1 ..) ?_
                                          refine T_if1 (by decide) ?_
                                          refine T_of (fX12_bad_J26.eq_1 ..) ?_
                                          refine T_if1 (by decide +kernel) ?_
                                          refine T_let 0 ((z_up_k (by decide)).trans ((z_up_k (by decide)).trans ((z_up_k (by decide)).trans (by decide +kernel)))) ?_
                                          refine T_if1 (by decide) ?_
                                          refine T_of (fX12_bad_J38.eq_1 ..) ?_
                                          refine T_if1 (by decide) ?_
                                          refine T_rI ?_
                                          refine T_if1 (by decide) ?_
                                          refine T_if1 (by decide +kernel) ?_
                                          refine T_bN ?_
                                          refine T_of (fX12_laysAll.eq_1 ..) ?_
                                          refine T_if1 (by decide +kernel) ?_
                                          refine T_bN ?_
                                          refine T_of (fX12_freshens.eq_1 ..) ?_
                                          refine T_if1 (by decide +kernel) ?_
                                          refine T_let 0 ((z_up_k (by decide)).trans ((z_up_k (by decide)).trans ((z_up_k (by decide)).trans (by decide +kernel)))) ?_
                                          refine T_if1 (by decide) ?_
                                          refine T_of (fX12_freshens_L10.eq_2 ..) ?_
                                          refine T_if1 (by decide +kernel) ?_
                                          refine T_let 0 ((z_up_k (by decide)).trans ((z_up_k (by decide)).trans ((z_up_k (by decide)).trans (by decide +kernel)))) ?_
                                          refine T_if1 (by decide) ?_
                                          refine T_if1 (by decide +kernel) ?_
                                          refine T_bN ?_
                                          refine T_of (fX12_laysPairs.eq_1 ..) ?_
                                          refine T_if1 (by decide +kernel) ?_
                                          refine T_up0 ((z_up_k (by decide)).trans ((z_up_k (by decide)).trans ((z_up_k (by decide)).trans (by decide +kernel)))) ?_
                                          refine T_if1 (by decide +kernel) ?_
                                          refine T_up0 ((z_up_k (by decide)).trans ((z_up_k (by decide)).trans ((z_up_k (by decide)).trans (by decide +kernel)))) ?_
                                          refine T_of (fX12_laysPairs_L14.eq_2 ..) ?_
                                          refine T_if1 (by decide +kernel) ?_
                                          refine T_let 0 ((z_up_k (by decide)).trans ((z_up_k (by decide)).trans ((z_up_k (by decide)).trans (by decide +kernel)))) ?_
                                          refine T_if1 (by decide) ?_
                                          refine T_rN ?_
                                          refine T_if1 (by decide +kernel) ?_
                                          refine T_up ?_
                                          refine T_if1 (by decide +kernel) ?_
                                          refine T_up0 ((z_up_j (by decide)).trans ((z_up_k (by decide)).trans ((z_up_k (by decide)).trans ((z_up_k (by decide)).trans (by decide +kernel))))) ?_
                                          refine T_rN ?_
                                          refine T_if1 (by decide +kernel) ?_
                                          refine T_let 0 ((z_up_j (by decide)).trans ((z_up_k (by decide)).trans ((z_up_k (by decide)).trans ((z_up_k (by decide)).trans (by decide +kernel))))) ?_
                                          refine T_if1 (by decide) ?_
                                          refine T_if1 (by decide +kernel) ?_
                                          refine T_let 312 (by decide +kernel) ?_
                                          refine T_if1 (by decide +kernel) ?_
                                          refine T_let 120 ((z_up_k (by decide)).trans ((z_up_k (by decide)).trans ((z_up_k (by decide)).trans ((z_up_k (by decide)).trans (by decide +kernel))))) ?_
                                          refine T_if1 (by decide +kernel) ?_
                                          refine T_let 312 (by decide +kernel) ?_
                                          refine T_if1 (by decide +kernel) ?_
                                          refine T_let 0 ((z_up_k (by decide)).trans ((z_up_k (by decide)).trans ((z_up_k (by decide)).trans ((z_up_k (by decide)).trans (by decide +kernel))))) ?_
                                          refine T_if1 (by decide +kernel) ?_
                                          refine T_bI ?_
                                          refine T_of (fX12_breaks.eq_1 ..) ?_
                                          refine T_if1 (by decide) ?_
                                          refine T_of (fX12_breaks_L15.eq_2 ..) ?_
                                          refine T_if1 (by decide +kernel) ?_
                                          refine T_let 0 ((z_up_j (by decide)).trans ((z_up_k (by decide)).trans ((z_up_k (by decide)).trans ((z_up_k (by decide)).trans (by decide +kernel))))) ?_
                                          refine T_if1 (by decide) ?_
                                          refine T_if1 (by decide +kernel) ?_
                                          refine T_let 3438 (by decide +kernel) ?_
                                          refine T_if1 (by decide +kernel) ?_
                                          refine T_let 0 ((z_up_j (by decide)).trans ((z_up_k (by decide)).trans ((z_up_k (by decide)).trans ((z_up_k (by decide)).trans (by decide +kernel))))) ?_
                                          refine T_if1 (by decide +kernel) ?_
                                          refine T_up0 ((z_up_k (by decide)).trans ((z_up_k (by decide)).trans ((z_up_k (by decide)).trans ((z_up_k (by decide)).trans (by decide +kernel))))) ?_
                                          refine T_rI ?_
                                          refine T_if1 (by decide +kernel) ?_
                                          refine T_up0 ((z_up_j (by decide)).trans ((z_up_k (by decide)).trans ((z_up_k (by decide)).trans ((z_up_k (by decide)).trans (by decide +kernel))))) ?_
                                          refine T_if1 (by decide +kernel) ?_
                                          refine T_up0 ((z_up_j (by decide)).trans ((z_up_k (by decide)).trans ((z_up_k (by decide)).trans ((z_up_k (by decide)).trans (by decide +kernel))))) ?_
                                          refine T_of (fX12_laysAll_L39.eq_2 ..) ?_
                                          refine T_if1 (by decide +kernel) ?_
                                          refine T_let 0 ((z_up_j (by decide)).trans ((z_up_k (by decide)).trans ((z_up_k (by decide)).trans ((z_up_k (by decide)).trans (by decide +kernel))))) ?_
                                          refine T_if1 (by decide) ?_
                                          refine T_if1 (by decide +kernel) ?_
                                          refine T_up ?_
                                          refine T_rN ?_
                                          refine T_if0 (by decide) ?_
                                          refine T_if0 (by decide) ?_
                                          refine T_if0 (by decide) ?_
                                          refine T_if0 (by decide) ?_
                                          refine T_if0 (by decide) ?_
                                          refine T_if0 (by decide) ?_
                                          refine T_if0 (by decide) ?_
                                          refine T_if0 (by decide) ?_
                                          refine T_if0 (by decide) ?_
                                          refine T_if0 (by decide) ?_
                                          refine T_if0 (by decide) ?_
                                          refine T_if0 (by decide) ?_
                                          refine T_if0 (by decide) ?_
                                          refine T_if0 (by decide) ?_
                                          refine T_if0 (by decide) ?_
                                          refine T_if0 (by decide) ?_
                                          refine T_if0 (by decide) ?_
                                          refine T_if1 (by decide) ?_
                                          refine T_if1 (by decide +kernel) ?_
                                          refine T_let 312 (by decide +kernel) ?_
                                          refine T_let 8 (by decide +kernel) ?_
                                          refine T_if1 (by decide +kernel) ?_
                                          refine T_let 4 ((z_up_k (by decide)).trans ((z_up_k (by decide)).trans ((z_up_k (by decide)).trans ((z_up_k (by decide)).trans ((z_up_k (by decide)).trans (by decide +kernel)))))) ?_
                                          refine T_rL ?_
                                          refine T_if1 (by decide +kernel) ?_
                                          refine T_bI ?_
                                          refine T_of (fX12_thrown.eq_1 ..) ?_
                                          refine T_if1 (by decide +kernel) ?_
                                          refine T_let 0 ((z_up_j (by decide)).trans ((z_up_j (by decide)).trans ((z_up_k (by decide)).trans ((z_up_k (by decide)).trans ((z_up_k (by decide)).trans (by decide +kernel)))))) ?_
                                          refine T_rI ?_
                                          refine T_if1 (by decide) ?_
                                          refine T_if0 (by decide) ?_
                                          refine T_if1 (by decide +kernel) ?_
                                          refine T_let 4 ((z_up_k (by decide)).trans ((z_up_k (by decide)).trans z_up_s)) ?_
                                          refine T_let 0 (by decide +kernel) ?_
                                          refine T_if1 (by decide) ?_
                                          refine T_of (fL_law_J587.eq_1 ..) ?_
                                          refine T_of (fL_law_J2073.eq_1 ..) ?_
                                          refine T_let 6 (by decide +kernel) ?_
                                          exact hr _
                                        · refine T_ite (fun h21 => ?_) (fun h21 => ?_)
                                          · subst h21
                                            refine T_if1 (by decide +kernel) ?_
                                            refine T_let 191 (by decide +kernel) ?_
                                            refine T_if1 (by decide +kernel) ?_
                                            refine T_let 0 ((z_up_k (by decide)).trans ((z_up_k (by decide)).trans (by decide +kernel))) ?_
                                            refine T_rcL ?_
                                            refine T_if1 (by decide +kernel) ?_
                                            refine T_up0 ((z_up_k (by decide)).trans ((z_up_k (by decide)).trans (by decide +kernel))) ?_
                                            refine T_rI ?_
                                            refine T_let 1 (by decide +kernel) ?_
                                            refine T_if1 (by decide) ?_
                                            refine T_let 18 q1 ?_
                                            refine T_if1 (by decide +kernel) ?_
                                            refine T_bL ?_
                                            refine T_of (fX12_told.eq_1 ..) ?_
                                            refine T_if1 (by decide +kernel) ?_
                                            refine T_up0 ((z_up_k (by decide)).trans ((z_up_k (by decide)).trans (by decide +kernel))) ?_
                                            refine T_bI ?_
                                            refine T_of (fX12_in.eq_1 ..) ?_
                                            refine T_if0 (by decide) ?_
                                            refine T_if0 (by decide) ?_
                                            refine T_of (fX12_in_J15.eq_1 ..) ?_
                                            refine T_if1 (by decide) ?_
                                            refine T_rI ?_
                                            refine T_if1 (by decide) ?_
                                            refine T_of (fX12_told_J21.eq_1 ..) ?_
                                            refine T_if1 (by decide +kernel) ?_
                                            refine T_bI ?_
                                            refine T_of (fX12_bad.eq_1 ..) ?_
                                            refine T_if1 (by decide) ?_
                                            refine T_of (fX12_bad_J26.eq_1 ..) ?_
                                            refine T_if1 (by decide +kernel) ?_
                                            refine T_let 0 ((z_up_k (by decide)).trans ((z_up_k (by decide)).trans (by decide +kernel))) ?_
                                            refine T_if1 (by decide) ?_
                                            refine T_of (fX12_bad_J38.eq_1 ..) ?_
                                            refine T_if1 (by decide) ?_
                                            refine T_rI ?_
                                            refine T_if1 (by decide) ?_
                                            refine T_if1 (by decide +kernel) ?_
                                            refine T_bN ?_
                                            refine T_of (fX12_laysAll.eq_1 ..) ?_
                                            refine T_if1 (by decide +kernel) ?_
                                            refine T_bN ?_
                                            refine T_of (fX12_freshens.eq_1 ..) ?_
                                            refine T_if1 (by decide +kernel) ?_
                                            refine T_let 0 ((z_up_k (by decide)).trans ((z_up_k (by decide)).trans (by decide +kernel))) ?_
                                            refine T_if1 (by decide) ?_
                                            refine T_of (fX12_freshens_L10.eq_2 ..) ?_
                                            refine T_if1 (by decide +kernel) ?_
                                            refine T_let 0 ((z_up_k (by decide)).trans ((z_up_k (by decide)).trans (by decide +kernel))) ?_
                                            refine T_if1 (by decide) ?_
                                            refine T_if1 (by decide +kernel) ?_
                                            refine T_bN ?_
                                            refine T_of (fX12_laysPairs.eq_1 ..) ?_
                                            refine T_if1 (by decide +kernel) ?_
                                            refine T_up0 ((z_up_k (by decide)).trans ((z_up_k (by decide)).trans (by decide +kernel))) ?_
                                            refine T_if1 (by decide +kernel) ?_
                                            refine T_up0 ((z_up_k (by decide)).trans ((z_up_k (by decide)).trans (by decide +kernel))) ?_
                                            refine T_of (fX12_laysPairs_L14.eq_2 ..) ?_
                                            refine T_if1 (by decide +kernel) ?_
                                            refine T_let 0 ((z_up_k (by decide)).trans ((z_up_k (by decide)).trans (by decide +kernel))) ?_
                                            refine T_if1 (by decide) ?_
                                            refine T_rN ?_
                                            refine T_if1 (by decide +kernel) ?_
                                            refine T_up ?_
                                            refine T_if1 (by decide +kernel) ?_
                                            refine T_up0 ((z_up_j (by decide)).trans ((z_up_k (by decide)).trans ((z_up_k (by decide)).trans (by decide +kernel)))) ?_
                                            refine T_rN ?_
                                            refine T_if1 (by decide +kernel) ?_
                                            refine T_let 0 ((z_up_j (by decide)).trans ((z_up_k (by decide)).trans ((z_up_k (by decide)).trans (by decide +kernel)))) ?_
                                            refine T_if1 (by decide) ?_
                                            refine T_if1 (by decide +kernel) ?_
                                            refine T_let 312 (by decide +kernel) ?_
                                            refine T_if1 (by decide +kernel) ?_
                                            refine T_let 120 ((z_up_k (by decide)).trans ((z_up_k (by decide)).trans ((z_up_k (by decide)).trans (by decide +kernel)))) ?_
                                            refine T_if1 (by decide +kernel) ?_
                                            refine T_let 312 (by decide +kernel) ?_
                                            refine T_if1 (by decide +kernel) ?_
                                            refine T_let 0 ((z_up_k (by decide)).trans ((z_up_k (by decide)).trans ((z_up_k (by decide)).trans (by decide +kernel)))) ?_
                                            refine T_if1 (by decide +kernel) ?_
                                            refine T_bI ?_
                                            refine T_of (fX12_breaks.eq_1 ..) ?_
                                            refine T_if1 (by decide) ?_
                                            refine T_of (fX12_breaks_L15.eq_2 ..) ?_
                                            refine T_if1 (by decide +kernel) ?_
                                            refine T_let 0 ((z_up_j (by decide)).trans ((z_up_k (by decide)).trans ((z_up_k (by decide)).trans (by decide +kernel)))) ?_
                                            refine T_if1 (by decide) ?_
                                            refine T_if1 (by decide +kernel) ?_
                                            refine T_let 3438 (by decide +kernel) ?_
                                            refine T_if1 (by decide +kernel) ?_
                                            refine T_let 0 ((z_up_j (by decide)).trans ((z_up_k (by decide)).trans ((z_up_k (by decide)).trans (by decide +kernel)))) ?_
                                            refine T_if1 (by decide +kernel) ?_
                                            refine T_up0 ((z_up_k (by decide)).trans ((z_up_k (by decide)).trans ((z_up_k (by decide)).trans (by decide +kernel)))) ?_
                                            refine T_rI ?_
                                            refine T_if1 (by decide +kernel) ?_
                                            refine T_up0 ((z_up_j (by decide)).trans ((z_up_k (by decide)).trans ((z_up_k (by decide)).trans (by decide +kernel)))) ?_
                                            refine T_if1 (by decide +kernel) ?_
                                            refine T_up0 ((z_up_j (by decide)).trans ((z_up_k (by decide)).trans ((z_up_k (by decide)).trans (by decide +kernel)))) ?_
                                            refine T_of (fX12_laysAll_L39.eq_2 ..) ?_
                                            refine T_if1 (by decide +kernel) ?_
                                            refine T_let 0 ((z_up_j (by decide)).trans ((z_up_k (by decide)).trans ((z_up_k (by decide)).trans (by decide +kernel)))) ?_
                                            refine T_if1 (by decide) ?_
                                            refine T_if1 (by decide +kernel) ?_
                                            refine T_up ?_
                                            refine T_rN ?_
                                            refine T_if0 (by decide) ?_
                                            refine T_if0 (by decide) ?_
                                            refine T_if0 (by decide) ?_
                                            refine T_if0 (by decide) ?_
                                            refine T_if0 (by decide) ?_
                                            refine T_if0 (by decide) ?_
                                            refine T_if0 (by decide) ?_
                                            refine T_if0 (by decide) ?_
                                            refine T_if0 (by decide) ?_
                                            refine T_if0 (by decide) ?_
                                            refine T_if0 (by decide) ?_
                                            refine T_if0 (by decide) ?_
                                            refine T_if0 (by decide) ?_
                                            refine T_if0 (by decide) ?_
                                            refine T_if0 (by decide) ?_
                                            refine T_if0 (by decide) ?_
                                            refine T_if0 (by decide) ?_
                                            refine T_if0 (by decide) ?_
                                            refine T_if1 (by decide) ?_
                                            refine T_if1 (by decide +kernel) ?_
                                            refine T_let 0 ((z_up_j (by decide)).trans ((z_up_j (by decide)).trans ((z_up_k (by decide)).trans ((z_up_k (by decide)).trans (by decide +kernel))))) ?_
                                            refine T_rL ?_
                                            refine T_if1 (by decide +kernel) ?_
                                            refine T_bI ?_
                                            refine T_of (fX12_thrown.eq_1 ..) ?_
                                            refine T_if1 (by decide +kernel) ?_
                                            refine T_let 0 ((z_up_j (by decide)).trans ((z_up_j (by decide)).trans ((z_up_k (by decide)).trans ((z_up_k (by decide)).trans (by decide +kernel))))) ?_
                                            refine T_rI ?_
                                            refine T_if1 (by decide) ?_
                                            refine T_if0 (by decide) ?_
                                            refine T_if1 (by decide +kernel) ?_
                                            refine T_let 0 ((z_up_k (by decide)).trans ((z_up_k (by decide)).trans ((z_up_k (by decide)).trans ((z_up_k (by decide)).trans (by decide +kernel))))) ?_
                                            refine T_let 0 (by decide +kernel) ?_
                                            refine T_if1 (by decide) ?_
                                            refine T_of (fL_law_J587.eq_1 ..) ?_
                                            refine T_of (fL_law_J2073.eq_1 ..) ?_
                                            refine T_let 6 (by decide +kernel) ?_
                                            exact hr _
                                          · refine T_if1 (by omega) ?_
                                            refine T_if1 (by decide +kernel) ?_
                                            refine T_let 191 (by decide +kernel) ?_
                                            refine T_if1 (by decide +kernel) ?_
                                            refine T_let 0 ((z_up_k (by decide)).trans ((z_up_k (by decide)).trans (by decide +kernel))) ?_
                                            refine T_rcL ?_
                                            refine T_if1 (by decide +kernel) ?_
                                            refine T_up0 ((z_up_k (by decide)).trans ((z_up_k (by decide)).trans (by decide +kernel))) ?_
                                            refine T_rI ?_
                                            refine T_let 1 (by decide +kernel) ?_
                                            refine T_if1 (by decide) ?_
                                            refine T_let p1 q1 ?_
                                            refine T_if1 (by decide +kernel) ?_
                                            refine T_bL ?_
                                            refine T_of (fX12_told.eq_1 ..) ?_
                                            refine T_if1 (by decide +kernel) ?_
                                            refine T_up0 ((z_up_k (by decide)).trans ((z_up_k (by decide)).trans (by decide +kernel))) ?_
                                            refine T_bI ?_
                                            refine T_of (fX12_in.eq_1 ..) ?_
                                            refine T_if0 (by omega) ?_
                                            refine T_if0 (by omega) ?_
                                            refine T_of (fX12_in_J15.eq_1 ..) ?_
                                            refine T_if1 (by decide) ?_
                                            refine T_rI ?_
                                            refine T_if1 (by decide) ?_
                                            refine T_of (fX12_told_J21.eq_1 ..) ?_
                                            refine T_if1 (by decide +kernel) ?_
                                            refine T_bI ?_
                                            refine T_of (fX12_bad.eq_1 ..) ?_
                                            refine T_if1 (by decide) ?_
                                            refine T_of (fX12_bad_J26.eq_1 ..) ?_
                                            refine T_if1 (by decide +kernel) ?_
                                            refine T_let 0 ((z_up_k (by decide)).trans ((z_up_k (by decide)).trans (by decide +kernel))) ?_
                                            refine T_if1 (by decide) ?_
                                            refine T_of (fX12_bad_J38.eq_1 ..) ?_
                                            refine T_if1 (by decide) ?_
                                            refine T_rI ?_
                                            refine T_if1 (by decide) ?_
                                            refine T_if1 (by decide +kernel) ?_
                                            refine T_bN ?_
                                            refine T_of (fX12_laysAll.eq_1 ..) ?_
                                            refine T_if1 (by decide +kernel) ?_
                                            refine T_bN ?_
                                            refine T_of (fX12_freshens.eq_1 ..) ?_
                                            refine T_if1 (by decide +kernel) ?_
                                            refine T_let 0 ((z_up_k (by decide)).trans ((z_up_k (by decide)).trans (by decide +kernel))) ?_
                                            refine T_if1 (by decide) ?_
                                            refine T_of (fX12_freshens_L10.eq_2 ..) ?_
                                            refine T_if1 (by decide +kernel) ?_
                                            refine T_let 0 ((z_up_k (by decide)).trans ((z_up_k (by decide)).trans (by decide +kernel))) ?_
                                            refine T_if1 (by decide) ?_
                                            refine T_if1 (by decide +kernel) ?_
                                            refine T_bN ?_
                                            refine T_of (fX12_laysPairs.eq_1 ..) ?_
                                            refine T_if1 (by decide +kernel) ?_
                                            refine T_up0 ((z_up_k (by decide)).trans ((z_up_k (by decide)).trans (by decide +kernel))) ?_
                                            refine T_if1 (by decide +kernel) ?_
                                            refine T_up0 ((z_up_k (by decide)).trans ((z_up_k (by decide)).trans (by decide +kernel))) ?_
                                            refine T_of (fX12_laysPairs_L14.eq_2 ..) ?_
                                            refine T_if1 (by decide +kernel) ?_
                                            refine T_let 0 ((z_up_k (by decide)).trans ((z_up_k (by decide)).trans (by decide +kernel))) ?_
                                            refine T_if1 (by decide) ?_
                                            refine T_rN ?_
                                            refine T_if1 (by decide +kernel) ?_
                                            refine T_up ?_
                                            refine T_if1 (by decide +kernel) ?_
                                            refine T_up0 ((z_up_j (by decide)).trans ((z_up_k (by decide)).trans ((z_up_k (by decide)).trans (by decide +kernel)))) ?_
                                            refine T_rN ?_
                                            refine T_if1 (by decide +kernel) ?_
                                            refine T_let 0 ((z_up_j (by decide)).trans ((z_up_k (by decide)).trans ((z_up_k (by decide)).trans (by decide +kernel)))) ?_
                                            refine T_if1 (by decide) ?_
                                            refine T_if1 (by decide +kernel) ?_
                                            refine T_let 312 (by decide +kernel) ?_
                                            refine T_if1 (by decide +kernel) ?_
                                            refine T_let 120 ((z_up_k (by decide)).trans ((z_up_k (by decide)).trans ((z_up_k (by decide)).trans (by decide +kernel)))) ?_
                                            refine T_if1 (by decide +kernel) ?_
                                            refine T_let 312 (by decide +kernel) ?_
                                            refine T_if1 (by decide +kernel) ?_
                                            refine T_let 0 ((z_up_k (by decide)).trans ((z_up_k (by decide)).trans ((z_up_k (by decide)).trans (by decide +kernel)))) ?_
                                            refine T_if1 (by decide +kernel) ?_
                                            refine T_bI ?_
                                            refine T_of (fX12_breaks.eq_1 ..) ?_
                                            refine T_if1 (by decide) ?_
                                            refine T_of (fX12_breaks_L15.eq_2 ..) ?_
                                            refine T_if1 (by decide +kernel) ?_
                                            refine T_let 0 ((z_up_j (by decide)).trans ((z_up_k (by decide)).trans ((z_up_k (by decide)).trans (by decide +kernel)))) ?_
                                            refine T_if1 (by decide) ?_
                                            refine T_if1 (by decide +kernel) ?_
                                            refine T_let 3438 (by decide +kernel) ?_
                                            refine T_if1 (by decide +kernel) ?_
                                            refine T_let 0 ((z_up_j (by decide)).trans ((z_up_k (by decide)).trans ((z_up_k (by decide)).trans (by decide +kernel)))) ?_
                                            refine T_if1 (by decide +kernel) ?_
                                            refine T_up0 ((z_up_k (by decide)).trans ((z_up_k (by decide)).trans ((z_up_k (by decide)).trans (by decide +kernel)))) ?_
                                            refine T_rI ?_
                                            refine T_if1 (by decide +kernel) ?_
                                            refine T_up0 ((z_up_j (by decide)).trans ((z_up_k (by decide)).trans ((z_up_k (by decide)).trans (by decide +kernel)))) ?_
                                            refine T_if1 (by decide +kernel) ?_
                                            refine T_up0 ((z_up_j (by decide)).trans ((z_up_k (by decide)).trans ((z_up_k (by decide)).trans (by decide +kernel)))) ?_
                                            refine T_of (fX12_laysAll_L39.eq_2 ..) ?_
                                            refine T_if1 (by decide +kernel) ?_
                                            refine T_let 0 ((z_up_j (by decide)).trans ((z_up_k (by decide)).trans ((z_up_k (by decide)).trans (by decide +kernel)))) ?_
                                            refine T_if1 (by decide) ?_
                                            refine T_if1 (by decide +kernel) ?_
                                            refine T_up ?_
                                            refine T_rN ?_
                                            refine T_if0 (by omega) ?_
                                            refine T_if0 (by omega) ?_
                                            refine T_if0 (by omega) ?_
                                            refine T_if0 (by omega) ?_
                                            refine T_if0 (by omega) ?_
                                            refine T_if0 (by omega) ?_
                                            refine T_if0 (by omega) ?_
                                            refine T_if0 (by omega) ?_
                                            refine T_if0 (by omega) ?_
                                            refine T_if0 (by omega) ?_
                                            refine T_if0 (by omega) ?_
                                            refine T_if0 (by omega) ?_
                                            refine T_if0 (by omega) ?_
                                            refine T_if0 (by omega) ?_
                                            refine T_if0 (by omega) ?_
                                            refine T_if0 (by omega) ?_
                                            refine T_if0 (by omega) ?_
                                            refine T_if0 (by omega) ?_
                                            refine T_if0 (by omega) ?_
                                            refine T_if1 (by omega) ?_
                                            refine T_if1 (by decide +kernel) ?_
                                            refine T_let 0 ((z_up_j (by decide)).trans ((z_up_j (by decide)).trans ((z_up_k (by decide)).trans ((z_up_k (by decide)).trans (by decide +kernel))))) ?_
                                            refine T_rL ?_
                                            refine T_if1 (by decide +kernel) ?_
                                            refine T_bI ?_
                                            refine T_of (fX12_thrown.eq_1 ..) ?_
                                            refine T_if1 (by decide +kernel) ?_
                                            refine T_let 0 ((z_up_j (by decide)).trans ((z_up_j (by decide)).trans ((z_up_k (by decide)).trans ((z_up_k (by decide)).trans (by decide +kernel))))) ?_
                                            refine T_rI ?_
                                            refine T_if1 (by decide) ?_
                                            refine T_if0 (by decide) ?_
                                            refine T_if1 (by decide +kernel) ?_
                                            refine T_let 0 ((z_up_k (by decide)).trans ((z_up_k (by decide)).trans ((z_up_k (by decide)).trans ((z_up_k (by decide)).trans (by decide +kernel))))) ?_
                                            refine T_let 0 (by decide +kernel) ?_
                                            refine T_if1 (by decide) ?_
                                            refine T_of (fL_law_J587.eq_1 ..) ?_
                                            refine T_of (fL_law_J2073.eq_1 ..) ?_
                                            refine T_let 6 (by decide +kernel) ?_
                                            exact hr _
    · refine T_of (fX11_needWithin_J10.eq_1 ..) ?_
      refine T_if1 (by decide +kernel) ?_
      refine T_let 0 (by decide +kernel) ?_
      refine T_let 1 (by decide +kernel) ?_
      refine T_if1 (by decide +kernel) ?_
      refine T_up ?_
      refine T_xN ?_
      refine T_x1L ?_
      refine T_rI ?_
      refine T_let 1 (by decide +kernel) ?_
      refine T_if1 (by decide) ?_
      refine T_let p1 q1 ?_
      refine T_if1 (by decide +kernel) ?_
      refine T_bL ?_
      refine T_of (fX12_told.eq_1 ..) ?_
      refine T_if1 (by decide +kernel) ?_
      refine T_up0 ((z_up_k (by decide)).trans (by decide +kernel)) ?_
      refine T_bI ?_
      refine T_of (fX12_in.eq_1 ..) ?_
      refine T_if0 (by omega) ?_
      refine T_if1 (by omega) ?_
      refine T_of (fX12_in_J14.eq_1 ..) ?_
      refine T_of (fX12_in_J15.eq_1 ..) ?_
      refine T_if1 (by decide) ?_
      refine T_rI ?_
      refine T_if0 (by decide) ?_
      refine T_of (fX12_told_J21.eq_1 ..) ?_
      refine T_if1 (by decide +kernel) ?_
      refine T_bI ?_
      refine T_of (fX12_bad.eq_1 ..) ?_
      refine T_if0 (by decide) ?_
      refine T_if1 (by decide +kernel) ?_
      refine T_let 0 ((z_up_k (by decide)).trans (by decide +kernel)) ?_
      refine T_if0 (by decide) ?_
      refine T_if1 (by decide +kernel) ?_
      refine T_up ?_
      refine T_if1 (by decide +kernel) ?_
      refine T_let 310 (by decide +kernel) ?_
      refine T_if1 (by decide +kernel) ?_
      refine T_let 0 ((z_up_k (by decide)).trans ((z_up_k (by decide)).trans (by decide +kernel))) ?_
      refine T_let 1 (by decide +kernel) ?_
      refine T_if1 (by decide +kernel) ?_
      refine T_up ?_
      refine T_of (fX12_bad_J26.eq_1 ..) ?_
      refine T_if1 (by decide +kernel) ?_
      refine T_let 1 ((z_up_k (by decide)).trans z_up_s) ?_
      refine T_if0 (by decide) ?_
      refine T_of (fX12_bad_J38.eq_1 ..) ?_
      refine T_if1 (by decide) ?_
      refine T_rI ?_
      refine T_if0 (by decide) ?_
      refine T_rL ?_
      refine T_if1 (by decide +kernel) ?_
      refine T_bI ?_
      refine T_of (fX12_thrown.eq_1 ..) ?_
      refine T_if1 (by decide +kernel) ?_
      refine T_let 1 ((z_up_k (by decide)).trans z_up_s) ?_
      refine T_rI ?_
      refine T_if1 (by decide) ?_
      refine T_if1 (by decide) ?_
      refine T_of (fL_law_J587.eq_1 ..) ?_
      refine T_of (fL_law_J2073.eq_1 ..) ?_
      refine T_let 6 (by decide +kernel) ?_
      exact hr _
theorem c_590 {xs : Nat → Int32} {r : z_M → Int → z_O} {k : z_M → z_O} {P : z_V → z_M → Prop} {p1 p2 p3 p4 p5 : Int} (q1 : Int32.toInt (xs 1) = p1) (q2 : Int32.toInt (xs 2) = p2) (q3 : Int32.toInt (xs 3) = p3) (q4 : Int32.toInt (xs 4) = p4) (q5 : Int32.toInt (xs 5) = p5) (hr : ∀ s, z_T (r s 6) P) : z_T (fL_law_J590 1000 6 xs z_s0 1 309 7658 0 r k) P := by
  refine T_of (fL_law_J590.eq_1 ..) ?_
  refine T_let 1 (by decide +kernel) ?_
  refine T_if1 (by decide) ?_
  refine T_let p1 q1 ?_
  refine T_let 2 (by decide +kernel) ?_
  refine T_if1 (by decide) ?_
  refine T_let p2 q2 ?_
  refine T_bI ?_
  refine T_of (fL_unit.eq_1 ..) ?_
  refine T_if1 (by decide +kernel) ?_
  refine T_cI ?_
  refine T_of (fX11_unit.eq_1 ..) ?_
  refine T_if1 (by decide +kernel) ?_
  refine T_bN ?_
  refine T_of e_refresh ?_
  refine T_rN ?_
  refine T_if1 (by decide +kernel) ?_
  refine T_let 191 (by decide +kernel) ?_
  refine T_if1 (by decide +kernel) ?_
  refine T_let 0 ((z_up_k (by decide)).trans ((z_up_k (by decide)).trans (by decide +kernel))) ?_
  refine T_if1 (by decide +kernel) ?_
  refine T_bN ?_
  refine T_of (fX11_needExisting.eq_1 ..) ?_
  refine T_ite (fun h1 => ?_) (fun h1 => ?_)
  · refine T_of (fX11_needExisting_J9.eq_1 ..) ?_
    refine T_if1 (by decide +kernel) ?_
    refine T_let 0 ((z_up_j (by decide)).trans ((z_up_j (by decide)).trans (by decide +kernel))) ?_
    refine T_let 1 (by decide +kernel) ?_
    refine T_if1 (by decide +kernel) ?_
    refine T_up ?_
    refine T_xN ?_
    refine T_x0I ?_
    refine T_rI ?_
    refine T_let 1 (by decide +kernel) ?_
    refine T_if1 (by decide) ?_
    refine T_let p1 q1 ?_
    refine T_let 2 (by decide +kernel) ?_
    refine T_if1 (by decide) ?_
    refine T_let p2 q2 ?_
    refine T_if1 (by decide +kernel) ?_
    refine T_bI ?_
    refine T_of (fX12_unit.eq_1 ..) ?_
    refine T_if1 (by decide +kernel) ?_
    refine T_up0 ((z_up_k (by decide)).trans ((z_up_k (by decide)).trans ((z_up_k (by decide)).trans (by decide +kernel)))) ?_
    refine T_if1 (by decide +kernel) ?_
    refine T_bI ?_
    refine T_of (fX12_isUnit.eq_1 ..) ?_
    refine T_if1 (by decide +kernel) ?_
    refine T_let 0 ((z_up_k (by decide)).trans ((z_up_k (by decide)).trans ((z_up_k (by decide)).trans (by decide +kernel)))) ?_
    refine T_let (-1) (by decide +kernel) ?_
    refine T_bI ?_
    refine T_of (fX12_in.eq_1 ..) ?_
    refine T_if1 (by omega) ?_
    refine T_of (fX12_in_J14.eq_1 ..) ?_
    refine T_of (fX12_in_J15.eq_1 ..) ?_
    refine T_if1 (by decide) ?_
    refine T_rI ?_
    refine T_if1 (by decide) ?_
    refine T_rI ?_
    refine T_if0 (by decide) ?_
    refine T_of (fX12_unit_J19.eq_1 ..) ?_
    refine T_if1 (by decide +kernel) ?_
    refine T_bI ?_
    refine T_of (fX12_bad.eq_1 ..) ?_
    refine T_if0 (by decide) ?_
    refine T_if1 (by decide +kernel) ?_
    refine T_let 0 ((z_up_k (by decide)).trans ((z_up_k (by decide)).trans ((z_up_k (by decide)).trans (by decide +kernel)))) ?_
    refine T_if0 (by decide) ?_
    refine T_if1 (by decide +kernel) ?_
    refine T_up ?_
    refine T_if1 (by decide +kernel) ?_
    refine T_let 310 (by decide +kernel) ?_
    refine T_if1 (by decide +kernel) ?_
    refine T_let 0 ((z_up_k (by decide)).trans ((z_up_k (by decide)).trans ((z_up_k (by decide)).trans ((z_up_k (by decide)).trans (by decide +kernel))))) ?_
    refine T_let 1 (by decide +kernel) ?_
    refine T_if1 (by decide +kernel) ?_
    refine T_up ?_
    refine T_of (fX12_bad_J26.eq_1 ..) ?_
    refine T_if1 (by decide +kernel) ?_
    refine T_let 1 ((z_up_k (by decide)).trans z_up_s) ?_
    refine T_if0 (by decide) ?_
    refine T_of (fX12_bad_J38.eq_1 ..) ?_
    refine T_if1 (by decide) ?_
    refine T_rI ?_
    refine T_if1 (by decide) ?_
    refine T_of (fX12_unit_J51.eq_1 ..) ?_
    refine T_rI ?_
    refine T_if1 (by decide +kernel) ?_
    refine T_bI ?_
    refine T_of (fX12_thrown.eq_1 ..) ?_
    refine T_if1 (by decide +kernel) ?_
    refine T_let 1 ((z_up_k (by decide)).trans z_up_s) ?_
    refine T_rI ?_
    refine T_if1 (by decide) ?_
    refine T_if1 (by decide) ?_
    refine T_of (fL_law_J655.eq_1 ..) ?_
    refine T_of (fL_law_J2073.eq_1 ..) ?_
    refine T_let 6 (by decide +kernel) ?_
    exact hr _
  · refine T_if0 (by omega) ?_
    refine T_of (fX11_needExisting_J9.eq_1 ..) ?_
    refine T_if1 (by decide +kernel) ?_
    refine T_let 0 ((z_up_j (by decide)).trans ((z_up_j (by decide)).trans (by decide +kernel))) ?_
    refine T_let 1 (by decide +kernel) ?_
    refine T_if1 (by decide +kernel) ?_
    refine T_up ?_
    refine T_xN ?_
    refine T_x0I ?_
    refine T_rI ?_
    refine T_let 1 (by decide +kernel) ?_
    refine T_if1 (by decide) ?_
    refine T_let p1 q1 ?_
    refine T_let 2 (by decide +kernel) ?_
    refine T_if1 (by decide) ?_
    refine T_let p2 q2 ?_
    refine T_if1 (by decide +kernel) ?_
    refine T_bI ?_
    refine T_of (fX12_unit.eq_1 ..) ?_
    refine T_if1 (by decide +kernel) ?_
    refine T_up0 ((z_up_k (by decide)).trans ((z_up_k (by decide)).trans ((z_up_k (by decide)).trans (by decide +kernel)))) ?_
    refine T_if1 (by decide +kernel) ?_
    refine T_bI ?_
    refine T_of (fX12_isUnit.eq_1 ..) ?_
    refine T_if1 (by decide +kernel) ?_
    refine T_let 0 ((z_up_k (by decide)).trans ((z_up_k (by decide)).trans ((z_up_k (by decide)).trans (by decide +kernel)))) ?_
    refine T_let (-1) (by decide +kernel) ?_
    refine T_bI ?_
    refine T_of (fX12_in.eq_1 ..) ?_
    refine T_if0 (by omega) ?_
    refine T_if1 (by omega) ?_
    refine T_of (fX12_in_J14.eq_1 ..) ?_
    refine T_of (fX12_in_J15.eq_1 ..) ?_
    refine T_if1 (by decide) ?_
    refine T_rI ?_
    refine T_if1 (by decide) ?_
    refine T_rI ?_
    refine T_if0 (by decide) ?_
    refine T_of (fX12_unit_J19.eq_1 ..) ?_
    refine T_if1 (by decide +kernel) ?_
    refine T_bI ?_
    refine T_of (fX12_bad.eq_1 ..) ?_
    refine T_if0 (by decide) ?_
    refine T_if1 (by decide +kernel) ?_
    refine T_let 0 ((z_up_k (by decide)).trans ((z_up_k (by decide)).trans ((z_up_k (by decide)).trans (by decide +kernel)))) ?_
    refine T_if0 (by decide) ?_
    refine T_if1 (by decide +kernel) ?_
    refine T_up ?_
    refine T_if1 (by decide +kernel) ?_
    refine T_let 310 (by decide +kernel) ?_
    refine T_if1 (by decide +kernel) ?_
    refine T_let 0 ((z_up_k (by decide)).trans ((z_up_k (by decide)).trans ((z_up_k (by decide)).trans ((z_up_k (by decide)).trans (by decide +kernel))))) ?_
    refine T_let 1 (by decide +kernel) ?_
    refine T_if1 (by decide +kernel) ?_
    refine T_up ?_
    refine T_of (fX12_bad_J26.eq_1 ..) ?_
    refine T_if1 (by decide +kernel) ?_
    refine T_let 1 ((z_up_k (by decide)).trans z_up_s) ?_
    refine T_if0 (by decide) ?_
    refine T_of (fX12_bad_J38.eq_1 ..) ?_
    refine T_if1 (by decide) ?_
    refine T_rI ?_
    refine T_if1 (by decide) ?_
    refine T_of (fX12_unit_J51.eq_1 ..) ?_
    refine T_rI ?_
    refine T_if1 (by decide +kernel) ?_
    refine T_bI ?_
    refine T_of (fX12_thrown.eq_1 ..) ?_
    refine T_if1 (by decide +kernel) ?_
    refine T_let 1 ((z_up_k (by decide)).trans z_up_s) ?_
    refine T_rI ?_
    refine T_if1 (by decide) ?_
    refine T_if1 (by decide) ?_
    refine T_of (fL_law_J655.eq_1 ..) ?_
    refine T_of (fL_law_J2073.eq_1 ..) ?_
    refine T_let 6 (by decide +kernel) ?_
    exact hr _
theorem c_658 {xs : Nat → Int32} {r : z_M → Int → z_O} {k : z_M → z_O} {P : z_V → z_M → Prop} {p1 p2 p3 p4 p5 : Int} (q1 : Int32.toInt (xs 1) = p1) (q2 : Int32.toInt (xs 2) = p2) (q3 : Int32.toInt (xs 3) = p3) (q4 : Int32.toInt (xs 4) = p4) (q5 : Int32.toInt (xs 5) = p5) (hr : ∀ s, z_T (r s 6) P) : z_T (fL_law_J658 1000 6 xs z_s0 1 309 7658 0 r k) P := by
  refine T_of (fL_law_J658.eq_1 ..) ?_
  refine T_let 1 (by decide +kernel) ?_
  refine T_if1 (by decide) ?_
  refine T_let p1 q1 ?_
  refine T_let 2 (by decide +kernel) ?_
  refine T_if1 (by decide) ?_
  refine T_let p2 q2 ?_
  refine T_bI ?_
  refine T_of (fL_sign.eq_1 ..) ?_
  refine T_if1 (by decide +kernel) ?_
  refine T_cI ?_
  refine T_of (fX11_sign.eq_1 ..) ?_
  refine T_if1 (by decide +kernel) ?_
  refine T_bN ?_
  refine T_of e_refresh ?_
  refine T_rN ?_
  refine T_if1 (by decide +kernel) ?_
  refine T_let 6 (by decide +kernel) ?_
  refine T_if1 (by decide +kernel) ?_
  refine T_let 0 ((z_up_k (by decide)).trans ((z_up_k (by decide)).trans (by decide +kernel))) ?_
  refine T_if1 (by decide +kernel) ?_
  refine T_bN ?_
  refine T_of (fX11_needExisting.eq_1 ..) ?_
  refine T_ite (fun h1 => ?_) (fun h1 => ?_)
  · refine T_of (fX11_needExisting_J9.eq_1 ..) ?_
    refine T_if1 (by decide +kernel) ?_
    refine T_let 0 ((z_up_j (by decide)).trans ((z_up_j (by decide)).trans (by decide +kernel))) ?_
    refine T_let 1 (by decide +kernel) ?_
    refine T_if1 (by decide +kernel) ?_
    refine T_up ?_
    refine T_xN ?_
    refine T_x0I ?_
    refine T_rI ?_
    refine T_let 1 (by decide +kernel) ?_
    refine T_if1 (by decide) ?_
    refine T_let p1 q1 ?_
    refine T_let 2 (by decide +kernel) ?_
    refine T_if1 (by decide) ?_
    refine T_let p2 q2 ?_
    refine T_if1 (by decide +kernel) ?_
    refine T_bI ?_
    refine T_of (fX12_sign.eq_1 ..) ?_
    refine T_if1 (by decide +kernel) ?_
    refine T_up0 ((z_up_k (by decide)).trans ((z_up_k (by decide)).trans ((z_up_k (by decide)).trans (by decide +kernel)))) ?_
    refine T_if1 (by decide +kernel) ?_
    refine T_let 315 (by decide +kernel) ?_
    refine T_if1 (by decide +kernel) ?_
    refine T_let 316 (by decide +kernel) ?_
    refine T_if1 (by decide +kernel) ?_
    refine T_let 0 ((z_up_k (by decide)).trans ((z_up_k (by decide)).trans ((z_up_k (by decide)).trans (by decide +kernel)))) ?_
    refine T_let (-1) (by decide +kernel) ?_
    refine T_bI ?_
    refine T_of (fX12_in.eq_1 ..) ?_
    refine T_if1 (by omega) ?_
    refine T_of (fX12_in_J14.eq_1 ..) ?_
    refine T_of (fX12_in_J15.eq_1 ..) ?_
    refine T_if1 (by decide) ?_
    refine T_rI ?_
    refine T_if0 (by decide) ?_
    refine T_of (fX12_sign_J29.eq_1 ..) ?_
    refine T_if1 (by decide +kernel) ?_
    refine T_bI ?_
    refine T_of (fX12_bad.eq_1 ..) ?_
    refine T_if0 (by decide) ?_
    refine T_if1 (by decide +kernel) ?_
    refine T_let 0 ((z_up_k (by decide)).trans ((z_up_k (by decide)).trans ((z_up_k (by decide)).trans (by decide +kernel)))) ?_
    refine T_if0 (by decide) ?_
    refine T_if1 (by decide +kernel) ?_
    refine T_up ?_
    refine T_if1 (by decide +kernel) ?_
    refine T_let 310 (by decide +kernel) ?_
    refine T_if1 (by decide +kernel) ?_
    refine T_let 0 ((z_up_k (by decide)).trans ((z_up_k (by decide)).trans ((z_up_k (by decide)).trans ((z_up_k (by decide)).trans (by decide +kernel))))) ?_
    refine T_let 1 (by decide +kernel) ?_
    refine T_if1 (by decide +kernel) ?_
    refine T_up ?_
    refine T_of (fX12_bad_J26.eq_1 ..) ?_
    refine T_if1 (by decide +kernel) ?_
    refine T_let 1 ((z_up_k (by decide)).trans z_up_s) ?_
    refine T_if0 (by decide) ?_
    refine T_of (fX12_bad_J38.eq_1 ..) ?_
    refine T_if1 (by decide) ?_
    refine T_rI ?_
    refine T_if1 (by decide) ?_
    refine T_of (fX12_sign_J61.eq_1 ..) ?_
    refine T_rI ?_
    refine T_if1 (by decide +kernel) ?_
    refine T_bI ?_
    refine T_of (fX12_thrown.eq_1 ..) ?_
    refine T_if1 (by decide +kernel) ?_
    refine T_let 1 ((z_up_k (by decide)).trans z_up_s) ?_
    refine T_rI ?_
    refine T_if1 (by decide) ?_
    refine T_if1 (by decide) ?_
    refine T_of (fL_law_J723.eq_1 ..) ?_
    refine T_of (fL_law_J2073.eq_1 ..) ?_
    refine T_let 6 (by decide +kernel) ?_
    exact hr _
  · refine T_if0 (by omega) ?_
    refine T_of (fX11_needExisting_J9.eq_1 ..) ?_
    refine T_if1 (by decide +kernel) ?_
    refine T_let 0 ((z_up_j (by decide)).trans ((z_up_j (by decide)).trans (by decide +kernel))) ?_
    refine T_let 1 (by decide +kernel) ?_
    refine T_if1 (by decide +kernel) ?_
    refine T_up ?_
    refine T_xN ?_
    refine T_x0I ?_
    refine T_rI ?_
    refine T_let 1 (by decide +kernel) ?_
    refine T_if1 (by decide) ?_
    refine T_let p1 q1 ?_
    refine T_let 2 (by decide +kernel) ?_
    refine T_if1 (by decide) ?_
    refine T_let p2 q2 ?_
    refine T_if1 (by decide +kernel) ?_
    refine T_bI ?_
    refine T_of (fX12_sign.eq_1 ..) ?_
    refine T_if1 (by decide +kernel) ?_
    refine T_up0 ((z_up_k (by decide)).trans ((z_up_k (by decide)).trans ((z_up_k (by decide)).trans (by decide +kernel)))) ?_
    refine T_if1 (by decide +kernel) ?_
    refine T_let 315 (by decide +kernel) ?_
    refine T_if1 (by decide +kernel) ?_
    refine T_let 316 (by decide +kernel) ?_
    refine T_if1 (by decide +kernel) ?_
    refine T_let 0 ((z_up_k (by decide)).trans ((z_up_k (by decide)).trans ((z_up_k (by decide)).trans (by decide +kernel)))) ?_
    refine T_let (-1) (by decide +kernel) ?_
    refine T_bI ?_
    refine T_of (fX12_in.eq_1 ..) ?_
    refine T_if0 (by omega) ?_
    refine T_if1 (by omega) ?_
    refine T_of (fX12_in_J14.eq_1 ..) ?_
    refine T_of (fX12_in_J15.eq_1 ..) ?_
    refine T_if1 (by decide) ?_
    refine T_rI ?_
    refine T_if0 (by decide) ?_
    refine T_of (fX12_sign_J29.eq_1 ..) ?_
    refine T_if1 (by decide +kernel) ?_
    refine T_bI ?_
    refine T_of (fX12_bad.eq_1 ..) ?_
    refine T_if0 (by decide) ?_
    refine T_if1 (by decide +kernel) ?_
    refine T_let 0 ((z_up_k (by decide)).trans ((z_up_k (by decide)).trans ((z_up_k (by decide)).trans (by decide +kernel)))) ?_
    refine T_if0 (by decide) ?_
    refine T_if1 (by decide +kernel) ?_
    refine T_up ?_
    refine T_if1 (by decide +kernel) ?_
    refine T_let 310 (by decide +kernel) ?_
    refine T_if1 (by decide +kernel) ?_
    refine T_let 0 ((z_up_k (by decide)).trans ((z_up_k (by decide)).trans ((z_up_k (by decide)).trans ((z_up_k (by decide)).trans (by decide +kernel))))) ?_
    refine T_let 1 (by decide +kernel) ?_
    refine T_if1 (by decide +kernel) ?_
    refine T_up ?_
    refine T_of (fX12_bad_J26.eq_1 ..) ?_
    refine T_if1 (by decide +kernel) ?_
    refine T_let 1 ((z_up_k (by decide)).trans z_up_s) ?_
    refine T_if0 (by decide) ?_
    refine T_of (fX12_bad_J38.eq_1 ..) ?_
    refine T_if1 (by decide) ?_
    refine T_rI ?_
    refine T_if1 (by decide) ?_
    refine T_of (fX12_sign_J61.eq_1 ..) ?_
    refine T_rI ?_
    refine T_if1 (by decide +kernel) ?_
    refine T_bI ?_
    refine T_of (fX12_thrown.eq_1 ..) ?_
    refine T_if1 (by decide +kernel) ?_
    refine T_let 1 ((z_up_k (by decide)).trans z_up_s) ?_
    refine T_rI ?_
    refine T_if1 (by decide) ?_
    refine T_if1 (by decide) ?_
    refine T_of (fL_law_J723.eq_1 ..) ?_
    refine T_of (fL_law_J2073.eq_1 ..) ?_
    refine T_let 6 (by decide +kernel) ?_
    exact hr _
theorem c_726 {xs : Nat → Int32} {r : z_M → Int → z_O} {k : z_M → z_O} {P : z_V → z_M → Prop} {p1 p2 p3 p4 p5 : Int} (q1 : Int32.toInt (xs 1) = p1) (q2 : Int32.toInt (xs 2) = p2) (q3 : Int32.toInt (xs 3) = p3) (q4 : Int32.toInt (xs 4) = p4) (q5 : Int32.toInt (xs 5) = p5) (hr : ∀ s, z_T (r s 6) P) : z_T (fL_law_J726 1000 6 xs z_s0 1 309 7658 0 r k) P := by
  refine T_of (fL_law_J726.eq_1 ..) ?_
  refine T_let 1 (by decide +kernel) ?_
  refine T_if1 (by decide) ?_
  refine T_let p1 q1 ?_
  refine T_let 2 (by decide +kernel) ?_
  refine T_if1 (by decide) ?_
  refine T_let p2 q2 ?_
  refine T_bI ?_
  refine T_of (fL_line.eq_1 ..) ?_
  refine T_if1 (by decide +kernel) ?_
  refine T_cI ?_
  refine T_of (fX11_line.eq_1 ..) ?_
  refine T_if1 (by decide +kernel) ?_
  refine T_bN ?_
  refine T_of e_refresh ?_
  refine T_rN ?_
  refine T_if1 (by decide +kernel) ?_
  refine T_let 240 (by decide +kernel) ?_
  refine T_if1 (by decide +kernel) ?_
  refine T_let 0 ((z_up_k (by decide)).trans ((z_up_k (by decide)).trans (by decide +kernel))) ?_
  refine T_if1 (by decide +kernel) ?_
  refine T_bN ?_
  refine T_of (fX11_needExisting.eq_1 ..) ?_
  refine T_ite (fun h1 => ?_) (fun h1 => ?_)
  · refine T_of (fX11_needExisting_J9.eq_1 ..) ?_
    refine T_if1 (by decide +kernel) ?_
    refine T_let 0 ((z_up_j (by decide)).trans ((z_up_j (by decide)).trans (by decide +kernel))) ?_
    refine T_let 1 (by decide +kernel) ?_
    refine T_if1 (by decide +kernel) ?_
    refine T_up ?_
    refine T_xN ?_
    refine T_x0I ?_
    refine T_rI ?_
    refine T_let 1 (by decide +kernel) ?_
    refine T_if1 (by decide) ?_
    refine T_let p1 q1 ?_
    refine T_let 2 (by decide +kernel) ?_
    refine T_if1 (by decide) ?_
    refine T_let p2 q2 ?_
    refine T_if1 (by decide +kernel) ?_
    refine T_bI ?_
    refine T_of (fX12_line.eq_1 ..) ?_
    refine T_if1 (by decide +kernel) ?_
    refine T_up0 ((z_up_k (by decide)).trans ((z_up_k (by decide)).trans ((z_up_k (by decide)).trans (by decide +kernel)))) ?_
    refine T_if1 (by decide +kernel) ?_
    refine T_bN ?_
    refine T_of (fX12_laysAll.eq_1 ..) ?_
    refine T_if1 (by decide +kernel) ?_
    refine T_bN ?_
    refine T_of (fX12_freshens.eq_1 ..) ?_
    refine T_if1 (by decide +kernel) ?_
    refine T_let 0 ((z_up_k (by decide)).trans ((z_up_k (by decide)).trans ((z_up_k (by decide)).trans (by decide +kernel)))) ?_
    refine T_if1 (by decide) ?_
    refine T_of (fX12_freshens_L10.eq_2 ..) ?_
    refine T_if1 (by decide +kernel) ?_
    refine T_let 0 ((z_up_k (by decide)).trans ((z_up_k (by decide)).trans ((z_up_k (by decide)).trans (by decide +kernel)))) ?_
    refine T_if1 (by decide) ?_
    refine T_if1 (by decide +kernel) ?_
    refine T_bN ?_
    refine T_of (fX12_laysPairs.eq_1 ..) ?_
    refine T_if1 (by decide +kernel) ?_
    refine T_up0 ((z_up_k (by decide)).trans ((z_up_k (by decide)).trans ((z_up_k (by decide)).trans (by decide +kernel)))) ?_
    refine T_if1 (by decide +kernel) ?_
    refine T_up0 ((z_up_k (by decide)).trans ((z_up_k (by decide)).trans ((z_up_k (by decide)).trans (by decide +kernel)))) ?_
    refine T_of (fX12_laysPairs_L14.eq_2 ..) ?_
    refine T_if1 (by decide +kernel) ?_
    refine T_let 0 ((z_up_k (by decide)).trans ((z_up_k (by decide)).trans ((z_up_k (by decide)).trans (by decide +kernel)))) ?_
    refine T_if1 (by decide) ?_
    refine T_rN ?_
    refine T_if1 (by decide +kernel) ?_
    refine T_up ?_
    refine T_if1 (by decide +kernel) ?_
    refine T_up0 ((z_up_j (by decide)).trans ((z_up_k (by decide)).trans ((z_up_k (by decide)).trans ((z_up_k (by decide)).trans (by decide +kernel))))) ?_
    refine T_rN ?_
    refine T_if1 (by decide +kernel) ?_
    refine T_let 0 ((z_up_j (by decide)).trans ((z_up_k (by decide)).trans ((z_up_k (by decide)).trans ((z_up_k (by decide)).trans (by decide +kernel))))) ?_
    refine T_if1 (by decide) ?_
    refine T_if1 (by decide +kernel) ?_
    refine T_let 312 (by decide +kernel) ?_
    refine T_if1 (by decide +kernel) ?_
    refine T_let 120 ((z_up_k (by decide)).trans ((z_up_k (by decide)).trans ((z_up_k (by decide)).trans ((z_up_k (by decide)).trans (by decide +kernel))))) ?_
    refine T_if1 (by decide +kernel) ?_
    refine T_let 312 (by decide +kernel) ?_
    refine T_if1 (by decide +kernel) ?_
    refine T_let 0 ((z_up_k (by decide)).trans ((z_up_k (by decide)).trans ((z_up_k (by decide)).trans ((z_up_k (by decide)).trans (by decide +kernel))))) ?_
    refine T_if1 (by decide +kernel) ?_
    refine T_bI ?_
    refine T_of (fX12_breaks.eq_1 ..) ?_
    refine T_if1 (by decide) ?_
    refine T_of (fX12_breaks_L15.eq_2 ..) ?_
    refine T_if1 (by decide +kernel) ?_
    refine T_let 0 ((z_up_j (by decide)).trans ((z_up_k (by decide)).trans ((z_up_k (by decide)).trans ((z_up_k (by decide)).trans (by decide +kernel))))) ?_
    refine T_if1 (by decide) ?_
    refine T_if1 (by decide +kernel) ?_
    refine T_let 3438 (by decide +kernel) ?_
    refine T_if1 (by decide +kernel) ?_
    refine T_let 0 ((z_up_j (by decide)).trans ((z_up_k (by decide)).trans ((z_up_k (by decide)).trans ((z_up_k (by decide)).trans (by decide +kernel))))) ?_
    refine T_if1 (by decide +kernel) ?_
    refine T_up0 ((z_up_k (by decide)).trans ((z_up_k (by decide)).trans ((z_up_k (by decide)).trans ((z_up_k (by decide)).trans (by decide +kernel))))) ?_
    refine T_rI ?_
    refine T_if1 (by decide +kernel) ?_
    refine T_up0 ((z_up_j (by decide)).trans ((z_up_k (by decide)).trans ((z_up_k (by decide)).trans ((z_up_k (by decide)).trans (by decide +kernel))))) ?_
    refine T_if1 (by decide +kernel) ?_
    refine T_up0 ((z_up_j (by decide)).trans ((z_up_k (by decide)).trans ((z_up_k (by decide)).trans ((z_up_k (by decide)).trans (by decide +kernel))))) ?_
    refine T_of (fX12_laysAll_L39.eq_2 ..) ?_
    refine T_if1 (by decide +kernel) ?_
    refine T_let 0 ((z_up_j (by decide)).trans ((z_up_k (by decide)).trans ((z_up_k (by decide)).trans ((z_up_k (by decide)).trans (by decide +kernel))))) ?_
    refine T_if1 (by decide) ?_
    refine T_if1 (by decide +kernel) ?_
    refine T_up ?_
    refine T_rN ?_
    refine T_if1 (by decide +kernel) ?_
    refine T_let 0 ((z_up_j (by decide)).trans ((z_up_j (by decide)).trans ((z_up_k (by decide)).trans ((z_up_k (by decide)).trans ((z_up_k (by decide)).trans (by decide +kernel)))))) ?_
    refine T_let (-1) (by decide +kernel) ?_
    refine T_bI ?_
    refine T_of (fX12_in.eq_1 ..) ?_
    refine T_if1 (by omega) ?_
    refine T_of (fX12_in_J14.eq_1 ..) ?_
    refine T_of (fX12_in_J15.eq_1 ..) ?_
    refine T_if1 (by decide) ?_
    refine T_rI ?_
    refine T_if0 (by decide) ?_
    refine T_of (fX12_line_J29.eq_1 ..) ?_
    refine T_if1 (by decide +kernel) ?_
    refine T_bI ?_
    refine T_of (fX12_bad.eq_1 ..) ?_
    refine T_if0 (by decide) ?_
    refine T_if1 (by decide +kernel) ?_
    refine T_let 0 ((z_up_j (by decide)).trans ((z_up_j (by decide)).trans ((z_up_k (by decide)).trans ((z_up_k (by decide)).trans ((z_up_k (by decide)).trans (by decide +kernel)))))) ?_
    refine T_if0 (by decide) ?_
    refine T_if1 (by decide +kernel) ?_
    refine T_up ?_
    refine T_if1 (by decide +kernel) ?_
    refine T_let 310 (by decide +kernel) ?_
    refine T_if1 (by decide +kernel) ?_
    refine T_let 0 ((z_up_k (by decide)).trans ((z_up_k (by decide)).trans ((z_up_k (by decide)).trans ((z_up_k (by decide)).trans ((z_up_k (by decide)).trans ((z_up_k (by decide)).trans (by decide +kernel))))))) ?_
    refine T_let 1 (by decide +kernel) ?_
    refine T_if1 (by decide +kernel) ?_
    refine T_up ?_
    refine T_of (fX12_bad_J26.eq_1 ..) ?_
    refine T_if1 (by decide +kernel) ?_
    refine T_let 1 ((z_up_k (by decide)).trans z_up_s) ?_
    refine T_if0 (by decide) ?_
    refine T_of (fX12_bad_J38.eq_1 ..) ?_
    refine T_if1 (by decide) ?_
    refine T_rI ?_
    refine T_if1 (by decide) ?_
    refine T_of (fX12_line_J61.eq_1 ..) ?_
    refine T_rI ?_
    refine T_if1 (by decide +kernel) ?_
    refine T_bI ?_
    refine T_of (fX12_thrown.eq_1 ..) ?_
    refine T_if1 (by decide +kernel) ?_
    refine T_let 1 ((z_up_k (by decide)).trans z_up_s) ?_
    refine T_rI ?_
    refine T_if1 (by decide) ?_
    refine T_if1 (by decide) ?_
    refine T_of (fL_law_J791.eq_1 ..) ?_
    refine T_of (fL_law_J2073.eq_1 ..) ?_
    refine T_let 6 (by decide +kernel) ?_
    exact hr _
  · refine T_if0 (by omega) ?_
    refine T_of (fX11_needExisting_J9.eq_1 ..) ?_
    refine T_if1 (by decide +kernel) ?_
    refine T_let 0 ((z_up_j (by decide)).trans ((z_up_j (by decide)).trans (by decide +kernel))) ?_
    refine T_let 1 (by decide +kernel) ?_
    refine T_if1 (by decide +kernel) ?_
    refine T_up ?_
    refine T_xN ?_
    refine T_x0I ?_
    refine T_rI ?_
    refine T_let 1 (by decide +kernel) ?_
    refine T_if1 (by decide) ?_
    refine T_let p1 q1 ?_
    refine T_let 2 (by decide +kernel) ?_
    refine T_if1 (by decide) ?_
    refine T_let p2 q2 ?_
    refine T_if1 (by decide +kernel) ?_
    refine T_bI ?_
    refine T_of (fX12_line.eq_1 ..) ?_
    refine T_if1 (by decide +kernel) ?_
    refine T_up0 ((z_up_k (by decide)).trans ((z_up_k (by decide)).trans ((z_up_k (by decide)).trans (by decide +kernel)))) ?_
    refine T_if1 (by decide +kernel) ?_
    refine T_bN ?_
    refine T_of (fX12_laysAll.eq_1 ..) ?_
    refine T_if1 (by decide +kernel) ?_
    refine T_bN ?_
    refine T_of (fX12_freshens.eq_1 ..) ?_
    refine T_if1 (by decide +kernel) ?_
    refine T_let 0 ((z_up_k (by decide)).trans ((z_up_k (by decide)).trans ((z_up_k (by decide)).trans (by decide +kernel)))) ?_
    refine T_if1 (by decide) ?_
    refine T_of (fX12_freshens_L10.eq_2 ..) ?_
    refine T_if1 (by decide +kernel) ?_
    refine T_let 0 ((z_up_k (by decide)).trans ((z_up_k (by decide)).trans ((z_up_k (by decide)).trans (by decide +kernel)))) ?_
    refine T_if1 (by decide) ?_
    refine T_if1 (by decide +kernel) ?_
    refine T_bN ?_
    refine T_of (fX12_laysPairs.eq_1 ..) ?_
    refine T_if1 (by decide +kernel) ?_
    refine T_up0 ((z_up_k (by decide)).trans ((z_up_k (by decide)).trans ((z_up_k (by decide)).trans (by decide +kernel)))) ?_
    refine T_if1 (by decide +kernel) ?_
    refine T_up0 ((z_up_k (by decide)).trans ((z_up_k (by decide)).trans ((z_up_k (by decide)).trans (by decide +kernel)))) ?_
    refine T_of (fX12_laysPairs_L14.eq_2 ..) ?_
    refine T_if1 (by decide +kernel) ?_
    refine T_let 0 ((z_up_k (by decide)).trans ((z_up_k (by decide)).trans ((z_up_k (by decide)).trans (by decide +kernel)))) ?_
    refine T_if1 (by decide) ?_
    refine T_rN ?_
    refine T_if1 (by decide +kernel) ?_
    refine T_up ?_
    refine T_if1 (by decide +kernel) ?_
    refine T_up0 ((z_up_j (by decide)).trans ((z_up_k (by decide)).trans ((z_up_k (by decide)).trans ((z_up_k (by decide)).trans (by decide +kernel))))) ?_
    refine T_rN ?_
    refine T_if1 (by decide +kernel) ?_
    refine T_let 0 ((z_up_j (by decide)).trans ((z_up_k (by decide)).trans ((z_up_k (by decide)).trans ((z_up_k (by decide)).trans (by decide +kernel))))) ?_
    refine T_if1 (by decide) ?_
    refine T_if1 (by decide +kernel) ?_
    refine T_let 312 (by decide +kernel) ?_
    refine T_if1 (by decide +kernel) ?_
    refine T_let 120 ((z_up_k (by decide)).trans ((z_up_k (by decide)).trans ((z_up_k (by decide)).trans ((z_up_k (by decide)).trans (by decide +kernel))))) ?_
    refine T_if1 (by decide +kernel) ?_
    refine T_let 312 (by decide +kernel) ?_
    refine T_if1 (by decide +kernel) ?_
    refine T_let 0 ((z_up_k (by decide)).trans ((z_up_k (by decide)).trans ((z_up_k (by decide)).trans ((z_up_k (by decide)).trans (by decide +kernel))))) ?_
    refine T_if1 (by decide +kernel) ?_
    refine T_bI ?_
    refine T_of (fX12_breaks.eq_1 ..) ?_
    refine T_if1 (by decide) ?_
    refine T_of (fX12_breaks_L15.eq_2 ..) ?_
    refine T_if1 (by decide +kernel) ?_
    refine T_let 0 ((z_up_j (by decide)).trans ((z_up_k (by decide)).trans ((z_up_k (by decide)).trans ((z_up_k (by decide)).trans (by decide +kernel))))) ?_
    refine T_if1 (by decide) ?_
    refine T_if1 (by decide +kernel) ?_
    refine T_let 3438 (by decide +kernel) ?_
    refine T_if1 (by decide +kernel) ?_
    refine T_let 0 ((z_up_j (by decide)).trans ((z_up_k (by decide)).trans ((z_up_k (by decide)).trans ((z_up_k (by decide)).trans (by decide +kernel))))) ?_
    refine T_if1 (by decide +kernel) ?_
    refine T_up0 ((z_up_k (by decide)).trans ((z_up_k (by decide)).trans ((z_up_k (by decide)).trans ((z_up_k (by decide)).trans (by decide +kernel))))) ?_
    refine T_rI ?_
    refine T_if1 (by decide +kernel) ?_
    refine T_up0 ((z_up_j (by decide)).trans ((z_up_k (by decide)).trans ((z_up_k (by decide)).trans ((z_up_k (by decide)).trans (by decide +kernel))))) ?_
    refine T_if1 (by decide +kernel) ?_
    refine T_up0 ((z_up_j (by decide)).trans ((z_up_k (by decide)).trans ((z_up_k (by decide)).trans ((z_up_k (by decide)).trans (by decide +kernel))))) ?_
    refine T_of (fX12_laysAll_L39.eq_2 ..) ?_
    refine T_if1 (by decide +kernel) ?_
    refine T_let 0 ((z_up_j (by decide)).trans ((z_up_k (by decide)).trans ((z_up_k (by decide)).trans ((z_up_k (by decide)).trans (by decide +kernel))))) ?_
    refine T_if1 (by decide) ?_
    refine T_if1 (by decide +kernel) ?_
    refine T_up ?_
    refine T_rN ?_
    refine T_if1 (by decide +kernel) ?_
    refine T_let 0 ((z_up_j (by decide)).trans ((z_up_j (by decide)).trans ((z_up_k (by decide)).trans ((z_up_k (by decide)).trans ((z_up_k (by decide)).trans (by decide +kernel)))))) ?_
    refine T_let (-1) (by decide +kernel) ?_
    refine T_bI ?_
    refine T_of (fX12_in.eq_1 ..) ?_
    refine T_if0 (by omega) ?_
    refine T_if1 (by omega) ?_
    refine T_of (fX12_in_J14.eq_1 ..) ?_
    refine T_of (fX12_in_J15.eq_1 ..) ?_
    refine T_if1 (by decide) ?_
    refine T_rI ?_
    refine T_if0 (by decide) ?_
    refine T_of (fX12_line_J29.eq_1 ..) ?_
    refine T_if1 (by decide +kernel) ?_
    refine T_bI ?_
    refine T_of (fX12_bad.eq_1 ..) ?_
    refine T_if0 (by decide) ?_
    refine T_if1 (by decide +kernel) ?_
    refine T_let 0 ((z_up_j (by decide)).trans ((z_up_j (by decide)).trans ((z_up_k (by decide)).trans ((z_up_k (by decide)).trans ((z_up_k (by decide)).trans (by decide +kernel)))))) ?_
    refine T_if0 (by decide) ?_
    refine T_if1 (by decide +kernel) ?_
    refine T_up ?_
    refine T_if1 (by decide +kernel) ?_
    refine T_let 310 (by decide +kernel) ?_
    refine T_if1 (by decide +kernel) ?_
    refine T_let 0 ((z_up_k (by decide)).trans ((z_up_k (by decide)).trans ((z_up_k (by decide)).trans ((z_up_k (by decide)).trans ((z_up_k (by decide)).trans ((z_up_k (by decide)).trans (by decide +kernel))))))) ?_
    refine T_let 1 (by decide +kernel) ?_
    refine T_if1 (by decide +kernel) ?_
    refine T_up ?_
    refine T_of (fX12_bad_J26.eq_1 ..) ?_
    refine T_if1 (by decide +kernel) ?_
    refine T_let 1 ((z_up_k (by decide)).trans z_up_s) ?_
    refine T_if0 (by decide) ?_
    refine T_of (fX12_bad_J38.eq_1 ..) ?_
    refine T_if1 (by decide) ?_
    refine T_rI ?_
    refine T_if1 (by decide) ?_
    refine T_of (fX12_line_J61.eq_1 ..) ?_
    refine T_rI ?_
    refine T_if1 (by decide +kernel) ?_
    refine T_bI ?_
    refine T_of (fX12_thrown.eq_1 ..) ?_
    refine T_if1 (by decide +kernel) ?_
    refine T_let 1 ((z_up_k (by decide)).trans z_up_s) ?_
    refine T_rI ?_
    refine T_if1 (by decide) ?_
    refine T_if1 (by decide) ?_
    refine T_of (fL_law_J791.eq_1 ..) ?_
    refine T_of (fL_law_J2073.eq_1 ..) ?_
    refine T_let 6 (by decide +kernel) ?_
    exact hr _
