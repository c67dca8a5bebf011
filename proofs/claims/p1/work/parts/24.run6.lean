/-! THE RUNS of one call on a fresh object (by program, wip/tool/mkrun.py) -/
theorem c_1912 {xs : Nat → Int32} {r : z_M → Int → z_O} {k : z_M → z_O} {P : z_V → z_M → Prop} {p1 p2 p3 p4 p5 : Int} (q1 : Int32.toInt (xs 1) = p1) (q2 : Int32.toInt (xs 2) = p2) (q3 : Int32.toInt (xs 3) = p3) (q4 : Int32.toInt (xs 4) = p4) (q5 : Int32.toInt (xs 5) = p5) (hr : ∀ s, z_T (r s 6) P) : z_T (fL_law_J1912 1000 6 xs z_s0 1 309 7658 0 r k) P := by
  refine T_of (fL_law_J1912.eq_1 ..) ?_
  refine T_let 1 (by decide +kernel) ?_
  refine T_if1 (by decide) ?_
  refine T_let p1 q1 ?_
  refine T_let 2 (by decide +kernel) ?_
  refine T_if1 (by decide) ?_
  refine T_let p2 q2 ?_
  refine T_let 3 (by decide +kernel) ?_
  refine T_if1 (by decide) ?_
  refine T_let p3 q3 ?_
  refine T_bI ?_
  refine T_of (fL_page.eq_1 ..) ?_
  refine T_if1 (by decide +kernel) ?_
  refine T_cI ?_
  refine T_of (fX11_page.eq_1 ..) ?_
  refine T_if1 (by decide +kernel) ?_
  refine T_bN ?_
  refine T_of (fX11_needWithin.eq_1 ..) ?_
  refine T_ite (fun h1 => ?_) (fun h1 => ?_)
  · refine T_of (fX11_needWithin_J10.eq_1 ..) ?_
    refine T_if1 (by decide +kernel) ?_
    refine T_let 0 (by decide +kernel) ?_
    refine T_let 1 (by decide +kernel) ?_
    refine T_if1 (by decide +kernel) ?_
    refine T_up ?_
    refine T_xN ?_
    refine T_x1I ?_
    refine T_rI ?_
    refine T_let 1 (by decide +kernel) ?_
    refine T_if1 (by decide) ?_
    refine T_let p1 q1 ?_
    refine T_let 2 (by decide +kernel) ?_
    refine T_if1 (by decide) ?_
    refine T_let p2 q2 ?_
    refine T_let 3 (by decide +kernel) ?_
    refine T_if1 (by decide) ?_
    refine T_let p3 q3 ?_
    refine T_if1 (by decide +kernel) ?_
    refine T_bI ?_
    refine T_of (fX12_page.eq_1 ..) ?_
    refine T_if1 (by decide +kernel) ?_
    refine T_up0 ((z_up_k (by decide)).trans (by decide +kernel)) ?_
    refine T_bI ?_
    refine T_of (fX12_in.eq_1 ..) ?_
    refine T_if1 (by omega) ?_
    refine T_of (fX12_in_J14.eq_1 ..) ?_
    refine T_of (fX12_in_J15.eq_1 ..) ?_
    refine T_if1 (by decide) ?_
    refine T_rI ?_
    refine T_if1 (by decide) ?_
    refine T_of (fX12_page_J27.eq_1 ..) ?_
    refine T_of (fX12_page_J32.eq_1 ..) ?_
    refine T_if1 (by decide +kernel) ?_
    refine T_bI ?_
    refine T_of (fX12_bad.eq_1 ..) ?_
    refine T_if0 (by decide) ?_
    refine T_if1 (by decide +kernel) ?_
    refine T_let 0 ((z_up_k (by decide)).trans (by decide +kernel)) ?_
    refine T_if0 (by decide) ?_
    refine T_if1 (by decide +kernel) ?_
    refine T_up ?_
    refine T_if1 (by decide +kernel) ?_
    refine T_let 310 (by decide +kernel) ?_
    refine T_if1 (by decide +kernel) ?_
    refine T_let 0 ((z_up_k (by decide)).trans ((z_up_k (by decide)).trans (by decide +kernel))) ?_
    refine T_let 1 (by decide +kernel) ?_
    refine T_if1 (by decide +kernel) ?_
    refine T_up ?_
    refine T_of (fX12_bad_J26.eq_1 ..) ?_
    refine T_if1 (by decide +kernel) ?_
    refine T_let 1 ((z_up_k (by decide)).trans z_up_s) ?_
    refine T_if0 (by decide) ?_
    refine T_of (fX12_bad_J38.eq_1 ..) ?_
    refine T_if1 (by decide) ?_
    refine T_rI ?_
    refine T_if0 (by decide) ?_
    refine T_rI ?_
    refine T_if1 (by decide +kernel) ?_
    refine T_bI ?_
    refine T_of (fX12_thrown.eq_1 ..) ?_
    refine T_if1 (by decide +kernel) ?_
    refine T_let 1 ((z_up_k (by decide)).trans z_up_s) ?_
    refine T_rI ?_
    refine T_if1 (by decide) ?_
    refine T_if1 (by decide) ?_
    refine T_of (fL_law_J1989.eq_1 ..) ?_
    refine T_of (fL_law_J2073.eq_1 ..) ?_
    refine T_let 6 (by decide +kernel) ?_
    exact hr _
  · refine T_ite (fun h2 => ?_) (fun h2 => ?_)
    · refine T_rN ?_
      refine T_if1 (by decide +kernel) ?_
      refine T_bN ?_
      refine T_of (fX11_needWithin.eq_1 ..) ?_
      refine T_ite (fun h3 => ?_) (fun h3 => ?_)
      · refine T_of (fX11_needWithin_J10.eq_1 ..) ?_
        refine T_if1 (by decide +kernel) ?_
        refine T_let 0 (by decide +kernel) ?_
        refine T_let 1 (by decide +kernel) ?_
        refine T_if1 (by decide +kernel) ?_
        refine T_up ?_
        refine T_xN ?_
        refine T_x1I ?_
        refine T_rI ?_
        refine T_let 1 (by decide +kernel) ?_
        refine T_if1 (by decide) ?_
        refine T_let p1 q1 ?_
        refine T_let 2 (by decide +kernel) ?_
        refine T_if1 (by decide) ?_
        refine T_let p2 q2 ?_
        refine T_let 3 (by decide +kernel) ?_
        refine T_if1 (by decide) ?_
        refine T_let p3 q3 ?_
        refine T_if1 (by decide +kernel) ?_
        refine T_bI ?_
        refine T_of (fX12_page.eq_1 ..) ?_
        refine T_if1 (by decide +kernel) ?_
        refine T_up0 ((z_up_k (by decide)).trans (by decide +kernel)) ?_
        refine T_bI ?_
        refine T_of (fX12_in.eq_1 ..) ?_
        refine T_if0 (by omega) ?_
        refine T_if0 (by omega) ?_
        refine T_of (fX12_in_J15.eq_1 ..) ?_
        refine T_if1 (by decide) ?_
        refine T_rI ?_
        refine T_if0 (by decide) ?_
        refine T_bI ?_
        refine T_of (fX12_in.eq_1 ..) ?_
        refine T_if1 (by omega) ?_
        refine T_of (fX12_in_J14.eq_1 ..) ?_
        refine T_of (fX12_in_J15.eq_1 ..) ?_
        refine T_if1 (by decide) ?_
        refine T_rI ?_
        refine T_if0 (by decide) ?_
        refine T_of (fX12_page_J27.eq_1 ..) ?_
        refine T_of (fX12_page_J32.eq_1 ..) ?_
        refine T_if1 (by decide +kernel) ?_
        refine T_bI ?_
        refine T_of (fX12_bad.eq_1 ..) ?_
        refine T_if0 (by decide) ?_
        refine T_if1 (by decide +kernel) ?_
        refine T_let 0 ((z_up_k (by decide)).trans (by decide +kernel)) ?_
        refine T_if0 (by decide) ?_
        refine T_if1 (by decide +kernel) ?_
        refine T_up ?_
        refine T_if1 (by decide +kernel) ?_
        refine T_let 310 (by decide +kernel) ?_
        refine T_if1 (by decide +kernel) ?_
        refine T_let 0 ((z_up_k (by decide)).trans ((z_up_k (by decide)).trans (by decide +kernel))) ?_
        refine T_let 1 (by decide +kernel) ?_
        refine T_if1 (by decide +kernel) ?_
        refine T_up ?_
        refine T_of (fX12_bad_J26.eq_1 ..) ?_
        refine T_if1 (by decide +kernel) ?_
        refine T_let 1 ((z_up_k (by decide)).trans z_up_s) ?_
        refine T_if0 (by decide) ?_
        refine T_of (fX12_bad_J38.eq_1 ..) ?_
        refine T_if1 (by decide) ?_
        refine T_rI ?_
        refine T_if0 (by decide) ?_
        refine T_rI ?_
        refine T_if1 (by decide +kernel) ?_
        refine T_bI ?_
        refine T_of (fX12_thrown.eq_1 ..) ?_
        refine T_if1 (by decide +kernel) ?_
        refine T_let 1 ((z_up_k (by decide)).trans z_up_s) ?_
        refine T_rI ?_
        refine T_if1 (by decide) ?_
        refine T_if1 (by decide) ?_
        refine T_of (fL_law_J1989.eq_1 ..) ?_
        refine T_of (fL_law_J2073.eq_1 ..) ?_
        refine T_let 6 (by decide +kernel) ?_
        exact hr _
      · refine T_ite (fun h4 => ?_) (fun h4 => ?_)
        · refine T_rN ?_
          refine T_if1 (by decide +kernel) ?_
          refine T_bN ?_
          refine T_of e_refresh ?_
          refine T_rN ?_
          refine T_if1 (by decide +kernel) ?_
          refine T_bN ?_
          refine T_of (fX11_refreshSides.eq_1 ..) ?_
          refine T_if1 (by decide +kernel) ?_
          refine T_let 0 ((z_up_j (by decide)).trans ((z_up_j (by decide)).trans (by decide +kernel))) ?_
          refine T_if0 (by decide) ?_
          refine T_if1 (by decide +kernel) ?_
          refine T_let 296 (by decide +kernel) ?_
          refine T_if1 (by decide +kernel) ?_
          refine T_bN ?_
          refine T_of (fX8_build.eq_1 ..) ?_
          refine T_if1 (by decide +kernel) ?_
          refine T_let 258 (by decide +kernel) ?_
          refine T_if1 (by decide +kernel) ?_
          refine T_bI ?_
          refine T_of (fX3_lineCount.eq_1 ..) ?_
          refine T_if1 (by decide +kernel) ?_
          refine T_let 240 (by decide +kernel) ?_
          refine T_if1 (by decide +kernel) ?_
          refine T_let 0 ((z_up_k (by decide)).trans ((z_up_k (by decide)).trans (by decide +kernel))) ?_
          refine T_rI ?_
          refine T_of (fX8_build_L10.eq_2 ..) ?_
          refine T_if1 (by decide) ?_
          refine T_of (fX8_build_L51.eq_2 ..) ?_
          refine T_if1 (by decide) ?_
          refine T_rN ?_
          refine T_if1 (by decide +kernel) ?_
          refine T_up ?_
          refine T_of (fX11_refreshSides_J19.eq_1 ..) ?_
          refine T_rN ?_
          refine T_ite (fun h5 => ?_) (fun h5 => ?_)
          · refine T_of (fX11_page_J40.eq_1 ..) ?_
            refine T_of (fX11_page_L45.eq_2 ..) ?_
            refine T_ite (fun h6 => ?_) (fun h6 => ?_)
            · refine T_of (fX11_page_J83.eq_1 ..) ?_
              refine T_if1 (by decide +kernel) ?_
              refine T_let 240 (by decide +kernel) ?_
              refine T_if1 (by decide +kernel) ?_
              refine T_let 0 ((z_up_k (by decide)).trans ((z_up_k (by decide)).trans ((z_up_k (by decide)).trans (by decide +kernel)))) ?_
              refine T_if0 (by decide) ?_
              refine T_rcI ?_
              refine T_if1 (by decide +kernel) ?_
              refine T_up ?_
              refine T_rI ?_
              refine T_let 1 (by decide +kernel) ?_
              refine T_if1 (by decide) ?_
              refine T_let p1 q1 ?_
              refine T_let 2 (by decide +kernel) ?_
              refine T_if1 (by decide) ?_
              refine T_let p2 q2 ?_
              refine T_let 3 (by decide +kernel) ?_
              refine T_if1 (by decide) ?_
              refine T_let p3 q3 ?_
              refine T_if1 (by decide +kernel) ?_
              refine T_bI ?_
              refine T_of (fX12_page.eq_1 ..) ?_
              refine T_if1 (by decide +kernel) ?_
              refine T_up0 ((z_up_k (by decide)).trans ((z_up_k (by decide)).trans ((z_up_k (by decide)).trans ((z_up_k (by decide)).trans (by decide +kernel))))) ?_
              refine T_bI ?_
              refine T_of (fX12_in.eq_1 ..) ?_
              refine T_if0 (by omega) ?_
              refine T_if0 (by omega) ?_
              refine T_of (fX12_in_J15.eq_1 ..) ?_
              refine T_if1 (by decide) ?_
              refine T_rI ?_
              refine T_if0 (by decide) ?_
              refine T_bI ?_
              refine T_of (fX12_in.eq_1 ..) ?_
              refine T_if0 (by omega) ?_
              refine T_if0 (by omega) ?_
              refine T_of (fX12_in_J15.eq_1 ..) ?_
              refine T_if1 (by decide) ?_
              refine T_rI ?_
              refine T_if1 (by decide) ?_
              refine T_of (fX12_page_J32.eq_1 ..) ?_
              refine T_if1 (by decide +kernel) ?_
              refine T_bI ?_
              refine T_of (fX12_bad.eq_1 ..) ?_
              refine T_if1 (by decide) ?_
              refine T_of (fX12_bad_J26.eq_1 ..) ?_
              refine T_if1 (by decide +kernel) ?_
              refine T_let 0 ((z_up_k (by decide)).trans ((z_up_k (by decide)).trans ((z_up_k (by decide)).trans ((z_up_k (by decide)).trans (by decide +kernel))))) ?_
              refine T_if1 (by decide) ?_
              refine T_of (fX12_bad_J38.eq_1 ..) ?_
              refine T_if1 (by decide) ?_
              refine T_rI ?_
              refine T_if1 (by decide) ?_
              refine T_if1 (by decide +kernel) ?_
              refine T_bN ?_
              refine T_of (fX12_laysGutters.eq_1 ..) ?_
              refine T_if1 (by decide +kernel) ?_
              refine T_bN ?_
              refine T_of (fX12_laysAll.eq_1 ..) ?_
              refine T_if1 (by decide +kernel) ?_
              refine T_bN ?_
              refine T_of (fX12_freshens.eq_1 ..) ?_
              refine T_if1 (by decide +kernel) ?_
              refine T_let 0 ((z_up_k (by decide)).trans ((z_up_k (by decide)).trans ((z_up_k (by decide)).trans ((z_up_k (by decide)).trans (by decide +kernel))))) ?_
              refine T_if1 (by decide) ?_
              refine T_of (fX12_freshens_L10.eq_2 ..) ?_
              refine T_if1 (by decide +kernel) ?_
              refine T_let 0 ((z_up_k (by decide)).trans ((z_up_k (by decide)).trans ((z_up_k (by decide)).trans ((z_up_k (by decide)).trans (by decide +kernel))))) ?_
              refine T_if1 (by decide) ?_
              refine T_if1 (by decide +kernel) ?_
              refine T_bN ?_
              refine T_of (fX12_laysPairs.eq_1 ..) ?_
              refine T_if1 (by decide +kernel) ?_
              refine T_up0 ((z_up_k (by decide)).trans ((z_up_k (by decide)).trans ((z_up_k (by decide)).trans ((z_up_k (by decide)).trans (by decide +kernel))))) ?_
              refine T_if1 (by decide +kernel) ?_
              refine T_up0 ((z_up_k (by decide)).trans ((z_up_k (by decide)).trans ((z_up_k (by decide)).trans ((z_up_k (by decide)).trans (by decide +kernel))))) ?_
              refine T_of (fX12_laysPairs_L14.eq_2 ..) ?_
              refine T_if1 (by decide +kernel) ?_
              refine T_let 0 ((z_up_k (by decide)).trans ((z_up_k (by decide)).trans ((z_up_k (by decide)).trans ((z_up_k (by decide)).trans (by decide +kernel))))) ?_
              refine T_if1 (by decide) ?_
              refine T_rN ?_
              refine T_if1 (by decide +kernel) ?_
              refine T_up ?_
              refine T_if1 (by decide +kernel) ?_
              refine T_up0 ((z_up_j (by decide)).trans ((z_up_k (by decide)).trans ((z_up_k (by decide)).trans ((z_up_k (by decide)).trans ((z_up_k (by decide)).trans (by decide +kernel)))))) ?_
              refine T_rN ?_
              refine T_if1 (by decide +kernel) ?_
              refine T_let 0 ((z_up_j (by decide)).trans ((z_up_k (by decide)).trans ((z_up_k (by decide)).trans ((z_up_k (by decide)).trans ((z_up_k (by decide)).trans (by decide +kernel)))))) ?_
              refine T_if1 (by decide) ?_
              refine T_if1 (by decide +kernel) ?_
              refine T_let 312 (by decide +kernel) ?_
              refine T_if1 (by decide +kernel) ?_
              refine T_let 120 ((z_up_k (by decide)).trans ((z_up_k (by decide)).trans ((z_up_k (by decide)).trans ((z_up_k (by decide)).trans ((z_up_k (by decide)).trans (by decide +kernel)))))) ?_
              refine T_if1 (by decide +kernel) ?_
              refine T_let 312 (by decide +kernel) ?_
              refine T_if1 (by decide +kernel) ?_
              refine T_let 0 ((z_up_k (by decide)).trans ((z_up_k (by decide)).trans ((z_up_k (by decide)).trans ((z_up_k (by decide)).trans ((z_up_k (by decide)).trans (by decide +kernel)))))) ?_
              refine T_if1 (by decide +kernel) ?_
              refine T_bI ?_
              refine T_of (fX12_breaks.eq_1 ..) ?_
              refine T_if1 (by decide) ?_
              refine T_of (fX12_breaks_L15.eq_2 ..) ?_
              refine T_if1 (by decide +kernel) ?_
              refine T_let 0 ((z_up_j (by decide)).trans ((z_up_k (by decide)).trans ((z_up_k (by decide)).trans ((z_up_k (by decide)).trans ((z_up_k (by decide)).trans (by decide +kernel)))))) ?_
              refine T_if1 (by decide) ?_
              refine T_if1 (by decide +kernel) ?_
              refine T_let 3438 (by decide +kernel) ?_
              refine T_if1 (by decide +kernel) ?_
              refine T_let 0 ((z_up_j (by decide)).trans ((z_up_k (by decide)).trans ((z_up_k (by decide)).trans ((z_up_k (by decide)).trans ((z_up_k (by decide)).trans (by decide +kernel)))))) ?_
              refine T_if1 (by decide +kernel) ?_
              refine T_up0 ((z_up_k (by decide)).trans ((z_up_k (by decide)).trans ((z_up_k (by decide)).trans ((z_up_k (by decide)).trans ((z_up_k (by decide)).trans (by decide +kernel)))))) ?_
              refine T_rI ?_
              refine T_if1 (by decide +kernel) ?_
              refine T_up0 ((z_up_j (by decide)).trans ((z_up_k (by decide)).trans ((z_up_k (by decide)).trans ((z_up_k (by decide)).trans ((z_up_k (by decide)).trans (by decide +kernel)))))) ?_
              refine T_if1 (by decide +kernel) ?_
              refine T_up0 ((z_up_j (by decide)).trans ((z_up_k (by decide)).trans ((z_up_k (by decide)).trans ((z_up_k (by decide)).trans ((z_up_k (by decide)).trans (by decide +kernel)))))) ?_
              refine T_of (fX12_laysAll_L39.eq_2 ..) ?_
              refine T_if1 (by decide +kernel) ?_
              refine T_let 0 ((z_up_j (by decide)).trans ((z_up_k (by decide)).trans ((z_up_k (by decide)).trans ((z_up_k (by decide)).trans ((z_up_k (by decide)).trans (by decide +kernel)))))) ?_
              refine T_if1 (by decide) ?_
              refine T_if1 (by decide +kernel) ?_
              refine T_up ?_
              refine T_rN ?_
              refine T_of (fX12_laysGutters_L6.eq_2 ..) ?_
              refine T_if1 (by decide +kernel) ?_
              refine T_let 0 ((z_up_j (by decide)).trans ((z_up_j (by decide)).trans ((z_up_k (by decide)).trans ((z_up_k (by decide)).trans ((z_up_k (by decide)).trans ((z_up_k (by decide)).trans (by decide +kernel))))))) ?_
              refine T_if1 (by decide) ?_
              refine T_rN ?_
              refine T_if1 (by decide +kernel) ?_
              refine T_bI ?_
              refine T_of (fX12_pagesBy.eq_1 ..) ?_
              refine T_of (fX12_pagesBy_L4.eq_2 ..) ?_
              refine T_if1 (by decide +kernel) ?_
              refine T_let 0 ((z_up_j (by decide)).trans ((z_up_j (by decide)).trans ((z_up_k (by decide)).trans ((z_up_k (by decide)).trans ((z_up_k (by decide)).trans ((z_up_k (by decide)).trans (by decide +kernel))))))) ?_
              refine T_if1 (by decide) ?_
              refine T_if1 (by decide +kernel) ?_
              refine T_let 7653 (by decide +kernel) ?_
              refine T_if1 (by decide +kernel) ?_
              refine T_let 0 ((z_up_j (by decide)).trans ((z_up_j (by decide)).trans ((z_up_k (by decide)).trans ((z_up_k (by decide)).trans ((z_up_k (by decide)).trans ((z_up_k (by decide)).trans (by decide +kernel))))))) ?_
              refine T_if1 (by decide +kernel) ?_
              refine T_up0 ((z_up_k (by decide)).trans ((z_up_k (by decide)).trans ((z_up_k (by decide)).trans ((z_up_k (by decide)).trans ((z_up_k (by decide)).trans ((z_up_k (by decide)).trans (by decide +kernel))))))) ?_
              refine T_rI ?_
              refine T_let (-1) (by decide +kernel) ?_
              refine T_bI ?_
              refine T_of (fX12_in.eq_1 ..) ?_
              refine T_if0 (by omega) ?_
              refine T_if1 (by omega) ?_
              refine T_of (fX12_in_J14.eq_1 ..) ?_
              refine T_of (fX12_in_J15.eq_1 ..) ?_
              refine T_if1 (by decide) ?_
              refine T_rI ?_
              refine T_if0 (by decide) ?_
              refine T_rI ?_
              refine T_if1 (by decide +kernel) ?_
              refine T_bI ?_
              refine T_of (fX12_thrown.eq_1 ..) ?_
              refine T_if1 (by decide +kernel) ?_
              refine T_let 0 ((z_up_j (by decide)).trans ((z_up_j (by decide)).trans ((z_up_k (by decide)).trans ((z_up_k (by decide)).trans ((z_up_k (by decide)).trans ((z_up_k (by decide)).trans (by decide +kernel))))))) ?_
              refine T_rI ?_
              refine T_if1 (by decide) ?_
              refine T_if0 (by decide) ?_
              refine T_if1 (by decide +kernel) ?_
              refine T_let (-1) ((z_up_k (by decide)).trans ((z_up_k (by decide)).trans z_up_s)) ?_
              refine T_let 0 (by decide +kernel) ?_
              refine T_if1 (by decide) ?_
              refine T_of (fL_law_J1989.eq_1 ..) ?_
              refine T_of (fL_law_J2073.eq_1 ..) ?_
              refine T_let 6 (by decide +kernel) ?_
              exact hr _
            · refine T_if1 (by decide +kernel) ?_
              refine T_let 240 (by decide +kernel) ?_
              refine T_if1 (by decide +kernel) ?_
              refine T_let 0 ((z_up_k (by decide)).trans ((z_up_k (by decide)).trans ((z_up_k (by decide)).trans (by decide +kernel)))) ?_
              refine T_if1 (by decide) ?_
              refine T_of (fX11_page_J83.eq_1 ..) ?_
              refine T_if1 (by decide +kernel) ?_
              refine T_let 240 (by decide +kernel) ?_
              refine T_if1 (by decide +kernel) ?_
              refine T_let 0 ((z_up_k (by decide)).trans ((z_up_k (by decide)).trans ((z_up_k (by decide)).trans (by decide +kernel)))) ?_
              refine T_if0 (by decide) ?_
              refine T_rcI ?_
              refine T_if1 (by decide +kernel) ?_
              refine T_up ?_
              refine T_rI ?_
              refine T_let 1 (by decide +kernel) ?_
              refine T_if1 (by decide) ?_
              refine T_let p1 q1 ?_
              refine T_let 2 (by decide +kernel) ?_
              refine T_if1 (by decide) ?_
              refine T_let p2 q2 ?_
              refine T_let 3 (by decide +kernel) ?_
              refine T_if1 (by decide) ?_
              refine T_let p3 q3 ?_
              refine T_if1 (by decide +kernel) ?_
              refine T_bI ?_
              refine T_of (fX12_page.eq_1 ..) ?_
              refine T_if1 (by decide +kernel) ?_
              refine T_up0 ((z_up_k (by decide)).trans ((z_up_k (by decide)).trans ((z_up_k (by decide)).trans ((z_up_k (by decide)).trans (by decide +kernel))))) ?_
              refine T_bI ?_
              refine T_of (fX12_in.eq_1 ..) ?_
              refine T_if0 (by omega) ?_
              refine T_if0 (by omega) ?_
              refine T_of (fX12_in_J15.eq_1 ..) ?_
              refine T_if1 (by decide) ?_
              refine T_rI ?_
              refine T_if0 (by decide) ?_
              refine T_bI ?_
              refine T_of (fX12_in.eq_1 ..) ?_
              refine T_if0 (by omega) ?_
              refine T_if0 (by omega) ?_
              refine T_of (fX12_in_J15.eq_1 ..) ?_
              refine T_if1 (by decide) ?_
              refine T_rI ?_
              refine T_if1 (by decide) ?_
              refine T_of (fX12_page_J32.eq_1 ..) ?_
              refine T_if1 (by decide +kernel) ?_
              refine T_bI ?_
              refine T_of (fX12_bad.eq_1 ..) ?_
              refine T_if1 (by decide) ?_
              refine T_of (fX12_bad_J26.eq_1 ..) ?_
              refine T_if1 (by decide +kernel) ?_
              refine T_let 0 ((z_up_k (by decide)).trans ((z_up_k (by decide)).trans ((z_up_k (by decide)).trans ((z_up_k (by decide)).trans (by decide +kernel))))) ?_
              refine T_if1 (by decide) ?_
              refine T_of (fX12_bad_J38.eq_1 ..) ?_
              refine T_if1 (by decide) ?_
              refine T_rI ?_
              refine T_if1 (by decide) ?_
              refine T_if1 (by decide +kernel) ?_
              refine T_bN ?_
              refine T_of (fX12_laysGutters.eq_1 ..) ?_
              refine T_if1 (by decide +kernel) ?_
              refine T_bN ?_
              refine T_of (fX12_laysAll.eq_1 ..) ?_
              refine T_if1 (by decide +kernel) ?_
              refine T_bN ?_
              refine T_of (fX12_freshens.eq_1 ..) ?_
              refine T_if1 (by decide +kernel) ?_
              refine T_let 0 ((z_up_k (by decide)).trans ((z_up_k (by decide)).trans ((z_up_k (by decide)).trans ((z_up_k (by decide)).trans (by decide +kernel))))) ?_
              refine T_if1 (by decide) ?_
              refine T_of (fX12_freshens_L10.eq_2 ..) ?_
              refine T_if1 (by decide +kernel) ?_
              refine T_let 0 ((z_up_k (by decide)).trans ((z_up_k (by decide)).trans ((z_up_k (by decide)).trans ((z_up_k (by decide)).trans (by decide +kernel))))) ?_
              refine T_if1 (by decide) ?_
              refine T_if1 (by decide +kernel) ?_
              refine T_bN ?_
              refine T_of (fX12_laysPairs.eq_1 ..) ?_
              refine T_if1 (by decide +kernel) ?_
              refine T_up0 ((z_up_k (by decide)).trans ((z_up_k (by decide)).trans ((z_up_k (by decide)).trans ((z_up_k (by decide)).trans (by decide +kernel))))) ?_
              refine T_if1 (by decide +kernel) ?_
              refine T_up0 ((z_up_k (by decide)).trans ((z_up_k (by decide)).trans ((z_up_k (by decide)).trans ((z_up_k (by decide)).trans (by decide +kernel))))) ?_
              refine T_of (fX12_laysPairs_L14.eq_2 ..) ?_
              refine T_if1 (by decide +kernel) ?_
              refine T_let 0 ((z_up_k (by decide)).trans ((z_up_k (by decide)).trans ((z_up_k (by decide)).trans ((z_up_k (by decide)).trans (by decide +kernel))))) ?_
              refine T_if1 (by decide) ?_
              refine T_rN ?_
              refine T_if1 (by decide +kernel) ?_
              refine T_up ?_
              refine T_if1 (by decide +kernel) ?_
              refine T_up0 ((z_up_j (by decide)).trans ((z_up_k (by decide)).trans ((z_up_k (by decide)).trans ((z_up_k (by decide)).trans ((z_up_k (by decide)).trans (by decide +kernel)))))) ?_
              refine T_rN ?_
              refine T_if1 (by decide +kernel) ?_
              refine T_let 0 ((z_up_j (by decide)).trans ((z_up_k (by decide)).trans ((z_up_k (by decide)).trans ((z_up_k (by decide)).trans ((z_up_k (by decide)).trans (by decide +kernel)))))) ?_
              refine T_if1 (by decide) ?_
              refine T_if1 (by decide +kernel) ?_
              refine T_let 312 (by decide +kernel) ?_
              refine T_if1 (by decide +kernel) ?_
              refine T_let 120 ((z_up_k (by decide)).trans ((z_up_k (by decide)).trans ((z_up_k (by decide)).trans ((z_up_k (by decide)).trans ((z_up_k (by decide)).trans (by decide +kernel)))))) ?_
              refine T_if1 (by decide +kernel) ?_
              refine T_let 312 (by decide +kernel) ?_
              refine T_if1 (by decide +kernel) ?_
              refine T_let 0 ((z_up_k (by decide)).trans ((z_up_k (by decide)).trans ((z_up_k (by decide)).trans ((z_up_k (by decide)).trans ((z_up_k (by decide)).trans (by decide +kernel)))))) ?_
              refine T_if1 (by decide +kernel) ?_
              refine T_bI ?_
              refine T_of (fX12_breaks.eq_1 ..) ?_
              refine T_if1 (by decide) ?_
              refine T_of (fX12_breaks_L15.eq_2 ..) ?_
              refine T_if1 (by decide +kernel) ?_
              refine T_let 0 ((z_up_j (by decide)).trans ((z_up_k (by decide)).trans ((z_up_k (by decide)).trans ((z_up_k (by decide)).trans ((z_up_k (by decide)).trans (by decide +kernel)))))) ?_
              refine T_if1 (by decide) ?_
              refine T_if1 (by decide +kernel) ?_
              refine T_let 3438 (by decide +kernel) ?_
              refine T_if1 (by decide +kernel) ?_
              refine T_let 0 ((z_up_j (by decide)).trans ((z_up_k (by decide)).trans ((z_up_k (by decide)).trans ((z_up_k (by decide)).trans ((z_up_k (by decide)).trans (by decide +kernel)))))) ?_
              refine T_if1 (by decide +kernel) ?_
              refine T_up0 ((z_up_k (by decide)).trans ((z_up_k (by decide)).trans ((z_up_k (by decide)).trans ((z_up_k (by decide)).trans ((z_up_k (by decide)).trans (by decide +kernel)))))) ?_
              refine T_rI ?_
              refine T_if1 (by decide +kernel) ?_
              refine T_up0 ((z_up_j (by decide)).trans ((z_up_k (by decide)).trans ((z_up_k (by decide)).trans ((z_up_k (by decide)).trans ((z_up_k (by decide)).trans (by decide +kernel)))))) ?_
              refine T_if1 (by decide +kernel) ?_
              refine T_up0 ((z_up_j (by decide)).trans ((z_up_k (by decide)).trans ((z_up_k (by decide)).trans ((z_up_k (by decide)).trans ((z_up_k (by decide)).trans (by decide +kernel)))))) ?_
              refine T_of (fX12_laysAll_L39.eq_2 ..) ?_
              refine T_if1 (by decide +kernel) ?_
              refine T_let 0 ((z_up_j (by decide)).trans ((z_up_k (by decide)).trans ((z_up_k (by decide)).trans ((z_up_k (by decide)).trans ((z_up_k (by decide)).trans (by decide +kernel)))))) ?_
              refine T_if1 (by decide) ?_
              refine T_if1 (by decide +kernel) ?_
              refine T_up ?_
              refine T_rN ?_
              refine T_of (fX12_laysGutters_L6.eq_2 ..) ?_
              refine T_if1 (by decide +kernel) ?_
              refine T_let 0 ((z_up_j (by decide)).trans ((z_up_j (by decide)).trans ((z_up_k (by decide)).trans ((z_up_k (by decide)).trans ((z_up_k (by decide)).trans ((z_up_k (by decide)).trans (by decide +kernel))))))) ?_
              refine T_if1 (by decide) ?_
              refine T_rN ?_
              refine T_if1 (by decide +kernel) ?_
              refine T_bI ?_
              refine T_of (fX12_pagesBy.eq_1 ..) ?_
              refine T_of (fX12_pagesBy_L4.eq_2 ..) ?_
              refine T_if1 (by decide +kernel) ?_
              refine T_let 0 ((z_up_j (by decide)).trans ((z_up_j (by decide)).trans ((z_up_k (by decide)).trans ((z_up_k (by decide)).trans ((z_up_k (by decide)).trans ((z_up_k (by decide)).trans (by decide +kernel))))))) ?_
              refine T_if1 (by decide) ?_
              refine T_if1 (by decide +kernel) ?_
              refine T_let 7653 (by decide +kernel) ?_
              refine T_if1 (by decide +kernel) ?_
              refine T_let 0 ((z_up_j (by decide)).trans ((z_up_j (by decide)).trans ((z_up_k (by decide)).trans ((z_up_k (by decide)).trans ((z_up_k (by decide)).trans ((z_up_k (by decide)).trans (by decide +kernel))))))) ?_
              refine T_if1 (by decide +kernel) ?_
              refine T_up0 ((z_up_k (by decide)).trans ((z_up_k (by decide)).trans ((z_up_k (by decide)).trans ((z_up_k (by decide)).trans ((z_up_k (by decide)).trans ((z_up_k (by decide)).trans (by decide +kernel))))))) ?_
              refine T_rI ?_
              refine T_let (-1) (by decide +kernel) ?_
              refine T_bI ?_
              refine T_of (fX12_in.eq_1 ..) ?_
              refine T_if0 (by omega) ?_
              refine T_if1 (by omega) ?_
              refine T_of (fX12_in_J14.eq_1 ..) ?_
              refine T_of (fX12_in_J15.eq_1 ..) ?_
              refine T_if1 (by decide) ?_
              refine T_rI ?_
              refine T_if0 (by decide) ?_
              refine T_rI ?_
              refine T_if1 (by decide +kernel) ?_
              refine T_bI ?_
              refine T_of (fX12_thrown.eq_1 ..) ?_
              refine T_if1 (by decide +kernel) ?_
              refine T_let 0 ((z_up_j (by decide)).trans ((z_up_j (by decide)).trans ((z_up_k (by decide)).trans ((z_up_k (by decide)).trans ((z_up_k (by decide)).trans ((z_up_k (by decide)).trans (by decide +kernel))))))) ?_
              refine T_rI ?_
              refine T_if1 (by decide) ?_
              refine T_if0 (by decide) ?_
              refine T_if1 (by decide +kernel) ?_
              refine T_let (-1) ((z_up_k (by decide)).trans ((z_up_k (by decide)).trans z_up_s)) ?_
              refine T_let 0 (by decide +kernel) ?_
              refine T_if1 (by decide) ?_
              refine T_of (fL_law_J1989.eq_1 ..) ?_
              refine T_of (fL_law_J2073.eq_1 ..) ?_
              refine T_let 6 (by decide +kernel) ?_
              exact hr _
          · refine T_if1 (by decide +kernel) ?_
            refine T_let 240 (by decide +kernel) ?_
            refine T_if1 (by decide +kernel) ?_
            refine T_let 0 ((z_up_k (by decide)).trans ((z_up_k (by decide)).trans ((z_up_k (by decide)).trans (by decide +kernel)))) ?_
            refine T_of (fX11_page_J40.eq_1 ..) ?_
            refine T_of (fX11_page_L45.eq_2 ..) ?_
            refine T_if1 (by omega) ?_
            refine T_of (fX11_page_J83.eq_1 ..) ?_
            refine T_if1 (by decide +kernel) ?_
            refine T_let 240 (by decide +kernel) ?_
            refine T_if1 (by decide +kernel) ?_
            refine T_let 0 ((z_up_k (by decide)).trans ((z_up_k (by decide)).trans ((z_up_k (by decide)).trans (by decide +kernel)))) ?_
            refine T_if0 (by decide) ?_
            refine T_rcI ?_
            refine T_if1 (by decide +kernel) ?_
            refine T_up ?_
            refine T_rI ?_
            refine T_let 1 (by decide +kernel) ?_
            refine T_if1 (by decide) ?_
            refine T_let p1 q1 ?_
            refine T_let 2 (by decide +kernel) ?_
            refine T_if1 (by decide) ?_
            refine T_let p2 q2 ?_
            refine T_let 3 (by decide +kernel) ?_
            refine T_if1 (by decide) ?_
            refine T_let p3 q3 ?_
            refine T_if1 (by decide +kernel) ?_
            refine T_bI ?_
            refine T_of (fX12_page.eq_1 ..) ?_
            refine T_if1 (by decide +kernel) ?_
            refine T_up0 ((z_up_k (by decide)).trans ((z_up_k (by decide)).trans ((z_up_k (by decide)).trans ((z_up_k (by decide)).trans (by decide +kernel))))) ?_
            refine T_bI ?_
            refine T_of (fX12_in.eq_1 ..) ?_
            refine T_if0 (by omega) ?_
            refine T_if0 (by omega) ?_
            refine T_of (fX12_in_J15.eq_1 ..) ?_
            refine T_if1 (by decide) ?_
            refine T_rI ?_
            refine T_if0 (by decide) ?_
            refine T_bI ?_
            refine T_of (fX12_in.eq_1 ..) ?_
            refine T_if0 (by omega) ?_
            refine T_if0 (by omega) ?_
            refine T_of (fX12_in_J15.eq_1 ..) ?_
            refine T_if1 (by decide) ?_
            refine T_rI ?_
            refine T_if1 (by decide) ?_
            refine T_of (fX12_page_J32.eq_1 ..) ?_
            refine T_if1 (by decide +kernel) ?_
            refine T_bI ?_
            refine T_of (fX12_bad.eq_1 ..) ?_
            refine T_if1 (by decide) ?_
            refine T_of (fX12_bad_J26.eq_1 ..) ?_
            refine T_if1 (by decide +kernel) ?_
            refine T_let 0 ((z_up_k (by decide)).trans ((z_up_k (by decide)).trans ((z_up_k (by decide)).trans ((z_up_k (by decide)).trans (by decide +kernel))))) ?_
            refine T_if1 (by decide) ?_
            refine T_of (fX12_bad_J38.eq_1 ..) ?_
            refine T_if1 (by decide) ?_
            refine T_rI ?_
            refine T_if1 (by decide) ?_
            refine T_if1 (by decide +kernel) ?_
            refine T_bN ?_
            refine T_of (fX12_laysGutters.eq_1 ..) ?_
            refine T_if1 (by decide +kernel) ?_
            refine T_bN ?_
            refine T_of (fX12_laysAll.eq_1 ..) ?_
            refine T_if1 (by decide +kernel) ?_
            refine T_bN ?_
            refine T_of (fX12_freshens.eq_1 ..) ?_
            refine T_if1 (by decide +kernel) ?_
            refine T_let 0 ((z_up_k (by decide)).trans ((z_up_k (by decide)).trans ((z_up_k (by decide)).trans ((z_up_k (by decide)).trans (by decide +kernel))))) ?_
            refine T_if1 (by decide) ?_
            refine T_of (fX12_freshens_L10.eq_2 ..) ?_
            refine T_if1 (by decide +kernel) ?_
            refine T_let 0 ((z_up_k (by decide)).trans ((z_up_k (by decide)).trans ((z_up_k (by decide)).trans ((z_up_k (by decide)).trans (by decide +kernel))))) ?_
            refine T_if1 (by decide) ?_
            refine T_if1 (by decide +kernel) ?_
            refine T_bN ?_
            refine T_of (fX12_laysPairs.eq_1 ..) ?_
            refine T_if1 (by decide +kernel) ?_
            refine T_up0 ((z_up_k (by decide)).trans ((z_up_k (by decide)).trans ((z_up_k (by decide)).trans ((z_up_k (by decide)).trans (by decide +kernel))))) ?_
            refine T_if1 (by decide +kernel) ?_
            refine T_up0 ((z_up_k (by decide)).trans ((z_up_k (by decide)).trans ((z_up_k (by decide)).trans ((z_up_k (by decide)).trans (by decide +kernel))))) ?_
            refine T_of (fX12_laysPairs_L14.eq_2 ..) ?_
            refine T_if1 (by decide +kernel) ?_
            refine T_let 0 ((z_up_k (by decide)).trans ((z_up_k (by decide)).trans ((z_up_k (by decide)).trans ((z_up_k (by decide)).trans (by decide +kernel))))) ?_
            refine T_if1 (by decide) ?_
            refine T_rN ?_
            refine T_if1 (by decide +kernel) ?_
            refine T_up ?_
            refine T_if1 (by decide +kernel) ?_
            refine T_up0 ((z_up_j (by decide)).trans ((z_up_k (by decide)).trans ((z_up_k (by decide)).trans ((z_up_k (by decide)).trans ((z_up_k (by decide)).trans (by decide +kernel)))))) ?_
            refine T_rN ?_
            refine T_if1 (by decide +kernel) ?_
            refine T_let 0 ((z_up_j (by decide)).trans ((z_up_k (by decide)).trans ((z_up_k (by decide)).trans ((z_up_k (by decide)).trans ((z_up_k (by decide)).trans (by decide +kernel)))))) ?_
            refine T_if1 (by decide) ?_
            refine T_if1 (by decide +kernel) ?_
            refine T_let 312 (by decide +kernel) ?_
            refine T_if1 (by decide +kernel) ?_
            refine T_let 120 ((z_up_k (by decide)).trans ((z_up_k (by decide)).trans ((z_up_k (by decide)).trans ((z_up_k (by decide)).trans ((z_up_k (by decide)).trans (by decide +kernel)))))) ?_
            refine T_if1 (by decide +kernel) ?_
            refine T_let 312 (by decide +kernel) ?_
            refine T_if1 (by decide +kernel) ?_
            refine T_let 0 ((z_up_k (by decide)).trans ((z_up_k (by decide)).trans ((z_up_k (by decide)).trans ((z_up_k (by decide)).trans ((z_up_k (by decide)).trans (by decide +kernel)))))) ?_
            refine T_if1 (by decide +kernel) ?_
            refine T_bI ?_
            refine T_of (fX12_breaks.eq_1 ..) ?_
            refine T_if1 (by decide) ?_
            refine T_of (fX12_breaks_L15.eq_2 ..) ?_
            refine T_if1 (by decide +kernel) ?_
            refine T_let 0 ((z_up_j (by decide)).trans ((z_up_k (by decide)).trans ((z_up_k (by decide)).trans ((z_up_k (by decide)).trans ((z_up_k (by decide)).trans (by decide +kernel)))))) ?_
            refine T_if1 (by decide) ?_
            refine T_if1 (by decide +kernel) ?_
            refine T_let 3438 (by decide +kernel) ?_
            refine T_if1 (by decide +kernel) ?_
            refine T_let 0 ((z_up_j (by decide)).trans ((z_up_k (by decide)).trans ((z_up_k (by decide)).trans ((z_up_k (by decide)).trans ((z_up_k (by decide)).trans (by decide +kernel)))))) ?_
            refine T_if1 (by decide +kernel) ?_
            refine T_up0 ((z_up_k (by decide)).trans ((z_up_k (by decide)).trans ((z_up_k (by decide)).trans ((z_up_k (by decide)).trans ((z_up_k (by decide)).trans (by decide +kernel)))))) ?_
            refine T_rI ?_
            refine T_if1 (by decide +kernel) ?_
            refine T_up0 ((z_up_j (by decide)).trans ((z_up_k (by decide)).trans ((z_up_k (by decide)).trans ((z_up_k (by decide)).trans ((z_up_k (by decide)).trans (by decide +kernel)))))) ?_
            refine T_if1 (by decide +kernel) ?_
            refine T_up0 ((z_up_j (by decide)).trans ((z_up_k (by decide)).trans ((z_up_k (by decide)).trans ((z_up_k (by decide)).trans ((z_up_k (by decide)).trans (by decide +kernel)))))) ?_
            refine T_of (fX12_laysAll_L39.eq_2 ..) ?_
            refine T_if1 (by decide +kernel) ?_
            refine T_let 0 ((z_up_j (by decide)).trans ((z_up_k (by decide)).trans ((z_up_k (by decide)).trans ((z_up_k (by decide)).trans ((z_up_k (by decide)).trans (by decide +kernel)))))) ?_
            refine T_if1 (by decide) ?_
            refine T_if1 (by decide +kernel) ?_
            refine T_up ?_
            refine T_rN ?_
            refine T_of (fX12_laysGutters_L6.eq_2 ..) ?_
            refine T_if1 (by decide +kernel) ?_
            refine T_let 0 ((z_up_j (by decide)).trans ((z_up_j (by decide)).trans ((z_up_k (by decide)).trans ((z_up_k (by decide)).trans ((z_up_k (by decide)).trans ((z_up_k (by decide)).trans (by decide +kernel))))))) ?_
            refine T_if1 (by decide) ?_
            refine T_rN ?_
            refine T_if1 (by decide +kernel) ?_
            refine T_bI ?_
            refine T_of (fX12_pagesBy.eq_1 ..) ?_
            refine T_of (fX12_pagesBy_L4.eq_2 ..) ?_
            refine T_if1 (by decide +kernel) ?_
            refine T_let 0 ((z_up_j (by decide)).trans ((z_up_j (by decide)).trans ((z_up_k (by decide)).trans ((z_up_k (by decide)).trans ((z_up_k (by decide)).trans ((z_up_k (by decide)).trans (by decide +kernel))))))) ?_
            refine T_if1 (by decide) ?_
            refine T_if1 (by decide +kernel) ?_
            refine T_let 7653 (by decide +kernel) ?_
            refine T_if1 (by decide +kernel) ?_
            refine T_let 0 ((z_up_j (by decide)).trans ((z_up_j (by decide)).trans ((z_up_k (by decide)).trans ((z_up_k (by decide)).trans ((z_up_k (by decide)).trans ((z_up_k (by decide)).trans (by decide +kernel))))))) ?_
            refine T_if1 (by decide +kernel) ?_
            refine T_up0 ((z_up_k (by decide)).trans ((z_up_k (by decide)).trans ((z_up_k (by decide)).trans ((z_up_k (by decide)).trans ((z_up_k (by decide)).trans ((z_up_k (by decide)).trans (by decide +kernel))))))) ?_
            refine T_rI ?_
            refine T_let (-1) (by decide +kernel) ?_
            refine T_bI ?_
            refine T_of (fX12_in.eq_1 ..) ?_
            refine T_if1 (by omega) ?_
            refine T_of (fX12_in_J14.eq_1 ..) ?_
            refine T_of (fX12_in_J15.eq_1 ..) ?_
            refine T_if1 (by decide) ?_
            refine T_rI ?_
            refine T_if0 (by decide) ?_
            refine T_rI ?_
            refine T_if1 (by decide +kernel) ?_
            refine T_bI ?_
            refine T_of (fX12_thrown.eq_1 ..) ?_
            refine T_if1 (by decide +kernel) ?_
            refine T_let 0 ((z_up_j (by decide)).trans ((z_up_j (by decide)).trans ((z_up_k (by decide)).trans ((z_up_k (by decide)).trans ((z_up_k (by decide)).trans ((z_up_k (by decide)).trans (by decide +kernel))))))) ?_
            refine T_rI ?_
            refine T_if1 (by decide) ?_
            refine T_if0 (by decide) ?_
            refine T_if1 (by decide +kernel) ?_
            refine T_let (-1) ((z_up_k (by decide)).trans ((z_up_k (by decide)).trans z_up_s)) ?_
            refine T_let 0 (by decide +kernel) ?_
            refine T_if1 (by decide) ?_
            refine T_of (fL_law_J1989.eq_1 ..) ?_
            refine T_of (fL_law_J2073.eq_1 ..) ?_
            refine T_let 6 (by decide +kernel) ?_
            exact hr _
        · refine T_of (fX11_needWithin_J10.eq_1 ..) ?_
          refine T_if1 (by decide +kernel) ?_
          refine T_let 0 (by decide +kernel) ?_
          refine T_let 1 (by decide +kernel) ?_
          refine T_if1 (by decide +kernel) ?_
          refine T_up ?_
          refine T_xN ?_
          refine T_x1I ?_
          refine T_rI ?_
          refine T_let 1 (by decide +kernel) ?_
          refine T_if1 (by decide) ?_
          refine T_let p1 q1 ?_
          refine T_let 2 (by decide +kernel) ?_
          refine T_if1 (by decide) ?_
          refine T_let p2 q2 ?_
          refine T_let 3 (by decide +kernel) ?_
          refine T_if1 (by decide) ?_
          refine T_let p3 q3 ?_
          refine T_if1 (by decide +kernel) ?_
          refine T_bI ?_
          refine T_of (fX12_page.eq_1 ..) ?_
          refine T_if1 (by decide +kernel) ?_
          refine T_up0 ((z_up_k (by decide)).trans (by decide +kernel)) ?_
          refine T_bI ?_
          refine T_of (fX12_in.eq_1 ..) ?_
          refine T_if0 (by omega) ?_
          refine T_if0 (by omega) ?_
          refine T_of (fX12_in_J15.eq_1 ..) ?_
          refine T_if1 (by decide) ?_
          refine T_rI ?_
          refine T_if0 (by decide) ?_
          refine T_bI ?_
          refine T_of (fX12_in.eq_1 ..) ?_
          refine T_if0 (by omega) ?_
          refine T_if1 (by omega) ?_
          refine T_of (fX12_in_J14.eq_1 ..) ?_
          refine T_of (fX12_in_J15.eq_1 ..) ?_
          refine T_if1 (by decide) ?_
          refine T_rI ?_
          refine T_if0 (by decide) ?_
          refine T_of (fX12_page_J27.eq_1 ..) ?_
          refine T_of (fX12_page_J32.eq_1 ..) ?_
          refine T_if1 (by decide +kernel) ?_
          refine T_bI ?_
          refine T_of (fX12_bad.eq_1 ..) ?_
          refine T_if0 (by decide) ?_
          refine T_if1 (by decide +kernel) ?_
          refine T_let 0 ((z_up_k (by decide)).trans (by decide +kernel)) ?_
          refine T_if0 (by decide) ?_
          refine T_if1 (by decide +kernel) ?_
          refine T_up ?_
          refine T_if1 (by decide +kernel) ?_
          refine T_let 310 (by decide +kernel) ?_
          refine T_if1 (by decide +kernel) ?_
          refine T_let 0 ((z_up_k (by decide)).trans ((z_up_k (by decide)).trans (by decide +kernel))) ?_
          refine T_let 1 (by decide +kernel) ?_
          refine T_if1 (by decide +kernel) ?_
          refine T_up ?_
          refine T_of (fX12_bad_J26.eq_1 ..) ?_
          refine T_if1 (by decide +kernel) ?_
          refine T_let 1 ((z_up_k (by decide)).trans z_up_s) ?_
          refine T_if0 (by decide) ?_
          refine T_of (fX12_bad_J38.eq_1 ..) ?_
          refine T_if1 (by decide) ?_
          refine T_rI ?_
          refine T_if0 (by decide) ?_
          refine T_rI ?_
          refine T_if1 (by decide +kernel) ?_
          refine T_bI ?_
          refine T_of (fX12_thrown.eq_1 ..) ?_
          refine T_if1 (by decide +kernel) ?_
          refine T_let 1 ((z_up_k (by decide)).trans z_up_s) ?_
          refine T_rI ?_
          refine T_if1 (by decide) ?_
          refine T_if1 (by decide) ?_
          refine T_of (fL_law_J1989.eq_1 ..) ?_
          refine T_of (fL_law_J2073.eq_1 ..) ?_
          refine T_let 6 (by decide +kernel) ?_
          exact hr _
    · refine T_of (fX11_needWithin_J10.eq_1 ..) ?_
      refine T_if1 (by decide +kernel) ?_
      refine T_let 0 (by decide +kernel) ?_
      refine T_let 1 (by decide +kernel) ?_
      refine T_if1 (by decide +kernel) ?_
      refine T_up ?_
      refine T_xN ?_
      refine T_x1I ?_
      refine T_rI ?_
      refine T_let 1 (by decide +kernel) ?_
      refine T_if1 (by decide) ?_
      refine T_let p1 q1 ?_
      refine T_let 2 (by decide +kernel) ?_
      refine T_if1 (by decide) ?_
      refine T_let p2 q2 ?_
      refine T_let 3 (by decide +kernel) ?_
      refine T_if1 (by decide) ?_
      refine T_let p3 q3 ?_
      refine T_if1 (by decide +kernel) ?_
      refine T_bI ?_
      refine T_of (fX12_page.eq_1 ..) ?_
      refine T_if1 (by decide +kernel) ?_
      refine T_up0 ((z_up_k (by decide)).trans (by decide +kernel)) ?_
      refine T_bI ?_
      refine T_of (fX12_in.eq_1 ..) ?_
      refine T_if0 (by omega) ?_
      refine T_if1 (by omega) ?_
      refine T_of (fX12_in_J14.eq_1 ..) ?_
      refine T_of (fX12_in_J15.eq_1 ..) ?_
      refine T_if1 (by decide) ?_
      refine T_rI ?_
      refine T_if1 (by decide) ?_
      refine T_of (fX12_page_J27.eq_1 ..) ?_
      refine T_of (fX12_page_J32.eq_1 ..) ?_
      refine T_if1 (by decide +kernel) ?_
      refine T_bI ?_
      refine T_of (fX12_bad.eq_1 ..) ?_
      refine T_if0 (by decide) ?_
      refine T_if1 (by decide +kernel) ?_
      refine T_let 0 ((z_up_k (by decide)).trans (by decide +kernel)) ?_
      refine T_if0 (by decide) ?_
      refine T_if1 (by decide +kernel) ?_
      refine T_up ?_
      refine T_if1 (by decide +kernel) ?_
      refine T_let 310 (by decide +kernel) ?_
      refine T_if1 (by decide +kernel) ?_
      refine T_let 0 ((z_up_k (by decide)).trans ((z_up_k (by decide)).trans (by decide +kernel))) ?_
      refine T_let 1 (by decide +kernel) ?_
      refine T_if1 (by decide +kernel) ?_
      refine T_up ?_
      refine T_of (fX12_bad_J26.eq_1 ..) ?_
      refine T_if1 (by decide +kernel) ?_
      refine T_let 1 ((z_up_k (by decide)).trans z_up_s) ?_
      refine T_if0 (by decide) ?_
      refine T_of (fX12_bad_J38.eq_1 ..) ?_
      refine T_if1 (by decide) ?_
      refine T_rI ?_
      refine T_if0 (by decide) ?_
      refine T_rI ?_
      refine T_if1 (by decide +kernel) ?_
      refine T_bI ?_
      refine T_of (fX12_thrown.eq_1 ..) ?_
      refine T_if1 (by decide +kernel) ?_
      refine T_let 1 ((z_up_k (by decide)).trans z_up_s) ?_
      refine T_rI ?_
      refine T_if1 (by decide) ?_
      refine T_if1 (by decide) ?_
      refine T_of (fL_law_J1989.eq_1 ..) ?_
      refine T_of (fL_law_J2073.eq_1 ..) ?_
      refine T_let 6 (by decide +kernel) ?_
      exact hr _
theorem c_1992 {xs : Nat → Int32} {r : z_M → Int → z_O} {k : z_M → z_O} {P : z_V → z_M → Prop} {p1 p2 p3 p4 p5 : Int} (q1 : Int32.toInt (xs 1) = p1) (q2 : Int32.toInt (xs 2) = p2) (q3 : Int32.toInt (xs 3) = p3) (q4 : Int32.toInt (xs 4) = p4) (q5 : Int32.toInt (xs 5) = p5) (hr : ∀ s, z_T (r s 6) P) : z_T (fL_law_J1992 1000 6 xs z_s0 1 309 7658 0 r k) P := by
  refine T_of (fL_law_J1992.eq_1 ..) ?_
  refine T_let 1 (by decide +kernel) ?_
  refine T_if1 (by decide) ?_
  refine T_let p1 q1 ?_
  refine T_bI ?_
  refine T_of (fL_narrow.eq_1 ..) ?_
  refine T_if1 (by decide +kernel) ?_
  refine T_cI ?_
  refine T_of (fX11_narrow.eq_1 ..) ?_
  refine T_if1 (by decide +kernel) ?_
  refine T_bN ?_
  refine T_of (fX11_needWithin.eq_1 ..) ?_
  refine T_ite (fun h1 => ?_) (fun h1 => ?_)
  · refine T_of (fX11_needWithin_J10.eq_1 ..) ?_
    refine T_if1 (by decide +kernel) ?_
    refine T_let 0 (by decide +kernel) ?_
    refine T_let 1 (by decide +kernel) ?_
    refine T_if1 (by decide +kernel) ?_
    refine T_up ?_
    refine T_xN ?_
    refine T_x1I ?_
    refine T_rI ?_
    refine T_let 1 (by decide +kernel) ?_
    refine T_if1 (by decide) ?_
    refine T_let p1 q1 ?_
    refine T_if1 (by decide +kernel) ?_
    refine T_bI ?_
    refine T_of (fX12_narrow.eq_1 ..) ?_
    refine T_if1 (by decide +kernel) ?_
    refine T_up0 ((z_up_k (by decide)).trans (by decide +kernel)) ?_
    refine T_bI ?_
    refine T_of (fX12_in.eq_1 ..) ?_
    refine T_if1 (by omega) ?_
    refine T_of (fX12_in_J14.eq_1 ..) ?_
    refine T_of (fX12_in_J15.eq_1 ..) ?_
    refine T_if1 (by decide) ?_
    refine T_rI ?_
    refine T_if0 (by decide) ?_
    refine T_of (fX12_narrow_J22.eq_1 ..) ?_
    refine T_if1 (by decide +kernel) ?_
    refine T_bI ?_
    refine T_of (fX12_bad.eq_1 ..) ?_
    refine T_if0 (by decide) ?_
    refine T_if1 (by decide +kernel) ?_
    refine T_let 0 ((z_up_k (by decide)).trans (by decide +kernel)) ?_
    refine T_if0 (by decide) ?_
    refine T_if1 (by decide +kernel) ?_
    refine T_up ?_
    refine T_if1 (by decide +kernel) ?_
    refine T_let 310 (by decide +kernel) ?_
    refine T_if1 (by decide +kernel) ?_
    refine T_let 0 ((z_up_k (by decide)).trans ((z_up_k (by decide)).trans (by decide +kernel))) ?_
    refine T_let 1 (by decide +kernel) ?_
    refine T_if1 (by decide +kernel) ?_
    refine T_up ?_
    refine T_of (fX12_bad_J26.eq_1 ..) ?_
    refine T_if1 (by decide +kernel) ?_
    refine T_let 1 ((z_up_k (by decide)).trans z_up_s) ?_
    refine T_if0 (by decide) ?_
    refine T_of (fX12_bad_J38.eq_1 ..) ?_
    refine T_if1 (by decide) ?_
    refine T_rI ?_
    refine T_if0 (by decide) ?_
    refine T_rI ?_
    refine T_if1 (by decide +kernel) ?_
    refine T_bI ?_
    refine T_of (fX12_thrown.eq_1 ..) ?_
    refine T_if1 (by decide +kernel) ?_
    refine T_let 1 ((z_up_k (by decide)).trans z_up_s) ?_
    refine T_rI ?_
    refine T_if1 (by decide) ?_
    refine T_if1 (by decide) ?_
    refine T_of (fL_law_J2045.eq_1 ..) ?_
    refine T_of (fL_law_J2073.eq_1 ..) ?_
    refine T_let 6 (by decide +kernel) ?_
    exact hr _
  · refine T_ite (fun h2 => ?_) (fun h2 => ?_)
    · refine T_rN ?_
      refine T_if1 (by decide +kernel) ?_
      refine T_bN ?_
      refine T_of e_refresh ?_
      refine T_rN ?_
      refine T_if1 (by decide +kernel) ?_
      refine T_bN ?_
      refine T_of (fX11_refreshSides.eq_1 ..) ?_
      refine T_if1 (by decide +kernel) ?_
      refine T_let 0 ((z_up_j (by decide)).trans ((z_up_j (by decide)).trans (by decide +kernel))) ?_
      refine T_if0 (by decide) ?_
      refine T_if1 (by decide +kernel) ?_
      refine T_let 296 (by decide +kernel) ?_
      refine T_if1 (by decide +kernel) ?_
      refine T_bN ?_
      refine T_of (fX8_build.eq_1 ..) ?_
      refine T_if1 (by decide +kernel) ?_
      refine T_let 258 (by decide +kernel) ?_
      refine T_if1 (by decide +kernel) ?_
      refine T_bI ?_
      refine T_of (fX3_lineCount.eq_1 ..) ?_
      refine T_if1 (by decide +kernel) ?_
      refine T_let 240 (by decide +kernel) ?_
      refine T_if1 (by decide +kernel) ?_
      refine T_let 0 ((z_up_k (by decide)).trans ((z_up_k (by decide)).trans (by decide +kernel))) ?_
      refine T_rI ?_
      refine T_of (fX8_build_L10.eq_2 ..) ?_
      refine T_if1 (by decide) ?_
      refine T_of (fX8_build_L51.eq_2 ..) ?_
      refine T_if1 (by decide) ?_
      refine T_rN ?_
      refine T_if1 (by decide +kernel) ?_
      refine T_up ?_
      refine T_of (fX11_refreshSides_J19.eq_1 ..) ?_
      refine T_rN ?_
      refine T_of (fX11_narrow_L24.eq_2 ..) ?_
      refine T_if0 (by decide) ?_
      refine T_let 10012 (by decide +kernel) ?_
      refine T_if1 (by decide) ?_
      refine T_let 5006 (by decide +kernel) ?_
      refine T_if1 (by decide +kernel) ?_
      refine T_let 296 (by decide +kernel) ?_
      refine T_if1 (by decide +kernel) ?_
      refine T_bI ?_
      refine T_of (fX8_pageCount.eq_1 ..) ?_
      refine T_of (fX8_pageCount_L4.eq_2 ..) ?_
      refine T_if1 (by decide +kernel) ?_
      refine T_let 258 (by decide +kernel) ?_
      refine T_if1 (by decide +kernel) ?_
      refine T_bI ?_
      refine T_of (fX3_lineCount.eq_1 ..) ?_
      refine T_if1 (by decide +kernel) ?_
      refine T_let 240 (by decide +kernel) ?_
      refine T_if1 (by decide +kernel) ?_
      refine T_let 0 ((z_up_k (by decide)).trans ((z_up_k (by decide)).trans ((z_up_k (by decide)).trans (by decide +kernel)))) ?_
      refine T_rI ?_
      refine T_if1 (by decide) ?_
      refine T_rI ?_
      refine T_if0 (by omega) ?_
      refine T_of (fX11_narrow_J60.eq_1 ..) ?_
      refine T_of (fX11_narrow_L24.eq_2 ..) ?_
      refine T_if0 (by decide) ?_
      refine T_let 5018 (by decide +kernel) ?_
      refine T_if1 (by decide) ?_
      refine T_let 2509 (by decide +kernel) ?_
      refine T_if1 (by decide +kernel) ?_
      refine T_let 296 (by decide +kernel) ?_
      refine T_if1 (by decide +kernel) ?_
      refine T_bI ?_
      refine T_of (fX8_pageCount.eq_1 ..) ?_
      refine T_of (fX8_pageCount_L4.eq_2 ..) ?_
      refine T_if1 (by decide +kernel) ?_
      refine T_let 258 (by decide +kernel) ?_
      refine T_if1 (by decide +kernel) ?_
      refine T_bI ?_
      refine T_of (fX3_lineCount.eq_1 ..) ?_
      refine T_if1 (by decide +kernel) ?_
      refine T_let 240 (by decide +kernel) ?_
      refine T_if1 (by decide +kernel) ?_
      refine T_let 0 ((z_up_k (by decide)).trans ((z_up_k (by decide)).trans ((z_up_k (by decide)).trans (by decide +kernel)))) ?_
      refine T_rI ?_
      refine T_if1 (by decide) ?_
      refine T_rI ?_
      refine T_if0 (by omega) ?_
      refine T_of (fX11_narrow_J60.eq_1 ..) ?_
      refine T_of (fX11_narrow_L24.eq_2 ..) ?_
      refine T_if0 (by decide) ?_
      refine T_let 2521 (by decide +kernel) ?_
      refine T_if1 (by decide) ?_
      refine T_let 1260 (by decide +kernel) ?_
      refine T_if1 (by decide +kernel) ?_
      refine T_let 296 (by decide +kernel) ?_
      refine T_if1 (by decide +kernel) ?_
      refine T_bI ?_
      refine T_of (fX8_pageCount.eq_1 ..) ?_
      refine T_of (fX8_pageCount_L4.eq_2 ..) ?_
      refine T_if1 (by decide +kernel) ?_
      refine T_let 258 (by decide +kernel) ?_
      refine T_if1 (by decide +kernel) ?_
      refine T_bI ?_
      refine T_of (fX3_lineCount.eq_1 ..) ?_
      refine T_if1 (by decide +kernel) ?_
      refine T_let 240 (by decide +kernel) ?_
      refine T_if1 (by decide +kernel) ?_
      refine T_let 0 ((z_up_k (by decide)).trans ((z_up_k (by decide)).trans ((z_up_k (by decide)).trans (by decide +kernel)))) ?_
      refine T_rI ?_
      refine T_if1 (by decide) ?_
      refine T_rI ?_
      refine T_if0 (by omega) ?_
      refine T_of (fX11_narrow_J60.eq_1 ..) ?_
      refine T_of (fX11_narrow_L24.eq_2 ..) ?_
      refine T_if0 (by decide) ?_
      refine T_let 1272 (by decide +kernel) ?_
      refine T_if1 (by decide) ?_
      refine T_let 636 (by decide +kernel) ?_
      refine T_if1 (by decide +kernel) ?_
      refine T_let 296 (by decide +kernel) ?_
      refine T_if1 (by decide +kernel) ?_
      refine T_bI ?_
      refine T_of (fX8_pageCount.eq_1 ..) ?_
      refine T_of (fX8_pageCount_L4.eq_2 ..) ?_
      refine T_if1 (by decide +kernel) ?_
      refine T_let 258 (by decide +kernel) ?_
      refine T_if1 (by decide +kernel) ?_
      refine T_bI ?_
      refine T_of (fX3_lineCount.eq_1 ..) ?_
      refine T_if1 (by decide +kernel) ?_
      refine T_let 240 (by decide +kernel) ?_
      refine T_if1 (by decide +kernel) ?_
      refine T_let 0 ((z_up_k (by decide)).trans ((z_up_k (by decide)).trans ((z_up_k (by decide)).trans (by decide +kernel)))) ?_
      refine T_rI ?_
      refine T_if1 (by decide) ?_
      refine T_rI ?_
      refine T_if0 (by omega) ?_
      refine T_of (fX11_narrow_J60.eq_1 ..) ?_
      refine T_of (fX11_narrow_L24.eq_2 ..) ?_
      refine T_if0 (by decide) ?_
      refine T_let 648 (by decide +kernel) ?_
      refine T_if1 (by decide) ?_
      refine T_let 324 (by decide +kernel) ?_
      refine T_if1 (by decide +kernel) ?_
      refine T_let 296 (by decide +kernel) ?_
      refine T_if1 (by decide +kernel) ?_
      refine T_bI ?_
      refine T_of (fX8_pageCount.eq_1 ..) ?_
      refine T_of (fX8_pageCount_L4.eq_2 ..) ?_
      refine T_if1 (by decide +kernel) ?_
      refine T_let 258 (by decide +kernel) ?_
      refine T_if1 (by decide +kernel) ?_
      refine T_bI ?_
      refine T_of (fX3_lineCount.eq_1 ..) ?_
      refine T_if1 (by decide +kernel) ?_
      refine T_let 240 (by decide +kernel) ?_
      refine T_if1 (by decide +kernel) ?_
      refine T_let 0 ((z_up_k (by decide)).trans ((z_up_k (by decide)).trans ((z_up_k (by decide)).trans (by decide +kernel)))) ?_
      refine T_rI ?_
      refine T_if1 (by decide) ?_
      refine T_rI ?_
      refine T_if0 (by omega) ?_
      refine T_of (fX11_narrow_J60.eq_1 ..) ?_
      refine T_of (fX11_narrow_L24.eq_2 ..) ?_
      refine T_if0 (by decide) ?_
      refine T_let 336 (by decide +kernel) ?_
      refine T_if1 (by decide) ?_
      refine T_let 168 (by decide +kernel) ?_
      refine T_if1 (by decide +kernel) ?_
      refine T_let 296 (by decide +kernel) ?_
      refine T_if1 (by decide +kernel) ?_
      refine T_bI ?_
      refine T_of (fX8_pageCount.eq_1 ..) ?_
      refine T_of (fX8_pageCount_L4.eq_2 ..) ?_
      refine T_if1 (by decide +kernel) ?_
      refine T_let 258 (by decide +kernel) ?_
      refine T_if1 (by decide +kernel) ?_
      refine T_bI ?_
      refine T_of (fX3_lineCount.eq_1 ..) ?_
      refine T_if1 (by decide +kernel) ?_
      refine T_let 240 (by decide +kernel) ?_
      refine T_if1 (by decide +kernel) ?_
      refine T_let 0 ((z_up_k (by decide)).trans ((z_up_k (by decide)).trans ((z_up_k (by decide)).trans (by decide +kernel)))) ?_
      refine T_rI ?_
      refine T_if1 (by decide) ?_
      refine T_rI ?_
      refine T_if0 (by omega) ?_
      refine T_of (fX11_narrow_J60.eq_1 ..) ?_
      refine T_of (fX11_narrow_L24.eq_2 ..) ?_
      refine T_if0 (by decide) ?_
      refine T_let 180 (by decide +kernel) ?_
      refine T_if1 (by decide) ?_
      refine T_let 90 (by decide +kernel) ?_
      refine T_if1 (by decide +kernel) ?_
      refine T_let 296 (by decide +kernel) ?_
      refine T_if1 (by decide +kernel) ?_
      refine T_bI ?_
      refine T_of (fX8_pageCount.eq_1 ..) ?_
      refine T_of (fX8_pageCount_L4.eq_2 ..) ?_
      refine T_if1 (by decide +kernel) ?_
      refine T_let 258 (by decide +kernel) ?_
      refine T_if1 (by decide +kernel) ?_
      refine T_bI ?_
      refine T_of (fX3_lineCount.eq_1 ..) ?_
      refine T_if1 (by decide +kernel) ?_
      refine T_let 240 (by decide +kernel) ?_
      refine T_if1 (by decide +kernel) ?_
      refine T_let 0 ((z_up_k (by decide)).trans ((z_up_k (by decide)).trans ((z_up_k (by decide)).trans (by decide +kernel)))) ?_
      refine T_rI ?_
      refine T_if1 (by decide) ?_
      refine T_rI ?_
      refine T_if0 (by omega) ?_
      refine T_of (fX11_narrow_J60.eq_1 ..) ?_
      refine T_of (fX11_narrow_L24.eq_2 ..) ?_
      refine T_if0 (by decide) ?_
      refine T_let 102 (by decide +kernel) ?_
      refine T_if1 (by decide) ?_
      refine T_let 51 (by decide +kernel) ?_
      refine T_if1 (by decide +kernel) ?_
      refine T_let 296 (by decide +kernel) ?_
      refine T_if1 (by decide +kernel) ?_
      refine T_bI ?_
      refine T_of (fX8_pageCount.eq_1 ..) ?_
      refine T_of (fX8_pageCount_L4.eq_2 ..) ?_
      refine T_if1 (by decide +kernel) ?_
      refine T_let 258 (by decide +kernel) ?_
      refine T_if1 (by decide +kernel) ?_
      refine T_bI ?_
      refine T_of (fX3_lineCount.eq_1 ..) ?_
      refine T_if1 (by decide +kernel) ?_
      refine T_let 240 (by decide +kernel) ?_
      refine T_if1 (by decide +kernel) ?_
      refine T_let 0 ((z_up_k (by decide)).trans ((z_up_k (by decide)).trans ((z_up_k (by decide)).trans (by decide +kernel)))) ?_
      refine T_rI ?_
      refine T_if1 (by decide) ?_
      refine T_rI ?_
      refine T_if0 (by omega) ?_
      refine T_of (fX11_narrow_J60.eq_1 ..) ?_
      refine T_of (fX11_narrow_L24.eq_2 ..) ?_
      refine T_if0 (by decide) ?_
      refine T_let 63 (by decide +kernel) ?_
      refine T_if1 (by decide) ?_
      refine T_let 31 (by decide +kernel) ?_
      refine T_if1 (by decide +kernel) ?_
      refine T_let 296 (by decide +kernel) ?_
      refine T_if1 (by decide +kernel) ?_
      refine T_bI ?_
      refine T_of (fX8_pageCount.eq_1 ..) ?_
      refine T_of (fX8_pageCount_L4.eq_2 ..) ?_
      refine T_if1 (by decide +kernel) ?_
      refine T_let 258 (by decide +kernel) ?_
      refine T_if1 (by decide +kernel) ?_
      refine T_bI ?_
      refine T_of (fX3_lineCount.eq_1 ..) ?_
      refine T_if1 (by decide +kernel) ?_
      refine T_let 240 (by decide +kernel) ?_
      refine T_if1 (by decide +kernel) ?_
      refine T_let 0 ((z_up_k (by decide)).trans ((z_up_k (by decide)).trans ((z_up_k (by decide)).trans (by decide +kernel)))) ?_
      refine T_rI ?_
      refine T_if1 (by decide) ?_
      refine T_rI ?_
      refine T_if0 (by omega) ?_
      refine T_of (fX11_narrow_J60.eq_1 ..) ?_
      refine T_of (fX11_narrow_L24.eq_2 ..) ?_
      refine T_if0 (by decide) ?_
      refine T_let 43 (by decide +kernel) ?_
      refine T_if1 (by decide) ?_
      refine T_let 21 (by decide +kernel) ?_
      refine T_if1 (by decide +kernel) ?_
      refine T_let 296 (by decide +kernel) ?_
      refine T_if1 (by decide +kernel) ?_
      refine T_bI ?_
      refine T_of (fX8_pageCount.eq_1 ..) ?_
      refine T_of (fX8_pageCount_L4.eq_2 ..) ?_
      refine T_if1 (by decide +kernel) ?_
      refine T_let 258 (by decide +kernel) ?_
      refine T_if1 (by decide +kernel) ?_
      refine T_bI ?_
      refine T_of (fX3_lineCount.eq_1 ..) ?_
      refine T_if1 (by decide +kernel) ?_
      refine T_let 240 (by decide +kernel) ?_
      refine T_if1 (by decide +kernel) ?_
      refine T_let 0 ((z_up_k (by decide)).trans ((z_up_k (by decide)).trans ((z_up_k (by decide)).trans (by decide +kernel)))) ?_
      refine T_rI ?_
      refine T_if1 (by decide) ?_
      refine T_rI ?_
      refine T_if0 (by omega) ?_
      refine T_of (fX11_narrow_J60.eq_1 ..) ?_
      refine T_of (fX11_narrow_L24.eq_2 ..) ?_
      refine T_if0 (by decide) ?_
      refine T_let 33 (by decide +kernel) ?_
      refine T_if1 (by decide) ?_
      refine T_let 16 (by decide +kernel) ?_
      refine T_if1 (by decide +kernel) ?_
      refine T_let 296 (by decide +kernel) ?_
      refine T_if1 (by decide +kernel) ?_
      refine T_bI ?_
      refine T_of (fX8_pageCount.eq_1 ..) ?_
      refine T_of (fX8_pageCount_L4.eq_2 ..) ?_
      refine T_if1 (by decide +kernel) ?_
      refine T_let 258 (by decide +kernel) ?_
      refine T_if1 (by decide +kernel) ?_
      refine T_bI ?_
      refine T_of (fX3_lineCount.eq_1 ..) ?_
      refine T_if1 (by decide +kernel) ?_
      refine T_let 240 (by decide +kernel) ?_
      refine T_if1 (by decide +kernel) ?_
      refine T_let 0 ((z_up_k (by decide)).trans ((z_up_k (by decide)).trans ((z_up_k (by decide)).trans (by decide +kernel)))) ?_
      refine T_rI ?_
      refine T_if1 (by decide) ?_
      refine T_rI ?_
      refine T_if0 (by omega) ?_
      refine T_of (fX11_narrow_J60.eq_1 ..) ?_
      refine T_of (fX11_narrow_L24.eq_2 ..) ?_
      refine T_if0 (by decide) ?_
      refine T_let 28 (by decide +kernel) ?_
      refine T_if1 (by decide) ?_
      refine T_let 14 (by decide +kernel) ?_
      refine T_if1 (by decide +kernel) ?_
      refine T_let 296 (by decide +kernel) ?_
      refine T_if1 (by decide +kernel) ?_
      refine T_bI ?_
      refine T_of (fX8_pageCount.eq_1 ..) ?_
      refine T_of (fX8_pageCount_L4.eq_2 ..) ?_
      refine T_if1 (by decide +kernel) ?_
      refine T_let 258 (by decide +kernel) ?_
      refine T_if1 (by decide +kernel) ?_
      refine T_bI ?_
      refine T_of (fX3_lineCount.eq_1 ..) ?_
      refine T_if1 (by decide +kernel) ?_
      refine T_let 240 (by decide +kernel) ?_
      refine T_if1 (by decide +kernel) ?_
      refine T_let 0 ((z_up_k (by decide)).trans ((z_up_k (by decide)).trans ((z_up_k (by decide)).trans (by decide +kernel)))) ?_
      refine T_rI ?_
      refine T_if1 (by decide) ?_
      refine T_rI ?_
      refine T_if0 (by omega) ?_
      refine T_of (fX11_narrow_J60.eq_1 ..) ?_
      refine T_of (fX11_narrow_L24.eq_2 ..) ?_
      refine T_if0 (by decide) ?_
      refine T_let 26 (by decide +kernel) ?_
      refine T_if1 (by decide) ?_
      refine T_let 13 (by decide +kernel) ?_
      refine T_if1 (by decide +kernel) ?_
      refine T_let 296 (by decide +kernel) ?_
      refine T_if1 (by decide +kernel) ?_
      refine T_bI ?_
      refine T_of (fX8_pageCount.eq_1 ..) ?_
      refine T_of (fX8_pageCount_L4.eq_2 ..) ?_
      refine T_if1 (by decide +kernel) ?_
      refine T_let 258 (by decide +kernel) ?_
      refine T_if1 (by decide +kernel) ?_
      refine T_bI ?_
      refine T_of (fX3_lineCount.eq_1 ..) ?_
      refine T_if1 (by decide +kernel) ?_
      refine T_let 240 (by decide +kernel) ?_
      refine T_if1 (by decide +kernel) ?_
      refine T_let 0 ((z_up_k (by decide)).trans ((z_up_k (by decide)).trans ((z_up_k (by decide)).trans (by decide +kernel)))) ?_
      refine T_rI ?_
      refine T_if1 (by decide) ?_
      refine T_rI ?_
      refine T_if0 (by omega) ?_
      refine T_of (fX11_narrow_J60.eq_1 ..) ?_
      refine T_of (fX11_narrow_L24.eq_2 ..) ?_
      refine T_if0 (by decide) ?_
      refine T_let 25 (by decide +kernel) ?_
      refine T_if1 (by decide) ?_
      refine T_let 12 (by decide +kernel) ?_
      refine T_if1 (by decide +kernel) ?_
      refine T_let 296 (by decide +kernel) ?_
      refine T_if1 (by decide +kernel) ?_
      refine T_bI ?_
      refine T_of (fX8_pageCount.eq_1 ..) ?_
      refine T_of (fX8_pageCount_L4.eq_2 ..) ?_
      refine T_if1 (by decide +kernel) ?_
      refine T_let 258 (by decide +kernel) ?_
      refine T_if1 (by decide +kernel) ?_
      refine T_bI ?_
      refine T_of (fX3_lineCount.eq_1 ..) ?_
      refine T_if1 (by decide +kernel) ?_
      refine T_let 240 (by decide +kernel) ?_
      refine T_if1 (by decide +kernel) ?_
      refine T_let 0 ((z_up_k (by decide)).trans ((z_up_k (by decide)).trans ((z_up_k (by decide)).trans (by decide +kernel)))) ?_
      refine T_rI ?_
      refine T_if1 (by decide) ?_
      refine T_rI ?_
      refine T_if0 (by omega) ?_
      refine T_of (fX11_narrow_J60.eq_1 ..) ?_
      refine T_of (fX11_narrow_L24.eq_2 ..) ?_
      refine T_if1 (by decide) ?_
      refine T_if1 (by decide) ?_
      refine T_of (fX11_narrow_J75.eq_1 ..) ?_
      refine T_rcI ?_
      refine T_if1 (by decide +kernel) ?_
      refine T_up ?_
      refine T_rI ?_
      refine T_let 1 (by decide +kernel) ?_
      refine T_if1 (by decide) ?_
      refine T_let p1 q1 ?_
      refine T_if1 (by decide +kernel) ?_
      refine T_bI ?_
      refine T_of (fX12_narrow.eq_1 ..) ?_
      refine T_if1 (by decide +kernel) ?_
      refine T_up0 ((z_up_k (by decide)).trans ((z_up_k (by decide)).trans ((z_up_k (by decide)).trans ((z_up_k (by decide)).trans (by decide +kernel))))) ?_
      refine T_bI ?_
      refine T_of (fX12_in.eq_1 ..) ?_
      refine T_if0 (by omega) ?_
      refine T_if0 (by omega) ?_
      refine T_of (fX12_in_J15.eq_1 ..) ?_
      refine T_if1 (by decide) ?_
      refine T_rI ?_
      refine T_if1 (by decide) ?_
      refine T_of (fX12_narrow_J22.eq_1 ..) ?_
      refine T_if1 (by decide +kernel) ?_
      refine T_bI ?_
      refine T_of (fX12_bad.eq_1 ..) ?_
      refine T_if1 (by decide) ?_
      refine T_of (fX12_bad_J26.eq_1 ..) ?_
      refine T_if1 (by decide +kernel) ?_
      refine T_let 0 ((z_up_k (by decide)).trans ((z_up_k (by decide)).trans ((z_up_k (by decide)).trans ((z_up_k (by decide)).trans (by decide +kernel))))) ?_
      refine T_if1 (by decide) ?_
      refine T_of (fX12_bad_J38.eq_1 ..) ?_
      refine T_if1 (by decide) ?_
      refine T_rI ?_
      refine T_if1 (by decide) ?_
      refine T_if1 (by decide +kernel) ?_
      refine T_bN ?_
      refine T_of (fX12_laysGutters.eq_1 ..) ?_
      refine T_if1 (by decide +kernel) ?_
      refine T_bN ?_
      refine T_of (fX12_laysAll.eq_1 ..) ?_
      refine T_if1 (by decide +kernel) ?_
      refine T_bN ?_
      refine T_of (fX12_freshens.eq_1 ..) ?_
      refine T_if1 (by decide +kernel) ?_
      refine T_let 0 ((z_up_k (by decide)).trans ((z_up_k (by decide)).trans ((z_up_k (by decide)).trans ((z_up_k (by decide)).trans (by decide +kernel))))) ?_
      refine T_if1 (by decide) ?_
      refine T_of (fX12_freshens_L10.eq_2 ..) ?_
      refine T_if1 (by decide +kernel) ?_
      refine T_let 0 ((z_up_k (by decide)).trans ((z_up_k (by decide)).trans ((z_up_k (by decide)).trans ((z_up_k (by decide)).trans (by decide +kernel))))) ?_
      refine T_if1 (by decide) ?_
      refine T_if1 (by decide +kernel) ?_
      refine T_bN ?_
      refine T_of (fX12_laysPairs.eq_1 ..) ?_
      refine T_if1 (by decide +kernel) ?_
      refine T_up0 ((z_up_k (by decide)).trans ((z_up_k (by decide)).trans ((z_up_k (by decide)).trans ((z_up_k (by decide)).trans (by decide +kernel))))) ?_
      refine T_if1 (by decide +kernel) ?_
      refine T_up0 ((z_up_k (by decide)).trans ((z_up_k (by decide)).trans ((z_up_k (by decide)).trans ((z_up_k (by decide)).trans (by decide +kernel))))) ?_
      refine T_of (fX12_laysPairs_L14.eq_2 ..) ?_
      refine T_if1 (by decide +kernel) ?_
      refine T_let 0 ((z_up_k (by decide)).trans ((z_up_k (by decide)).trans ((z_up_k (by decide)).trans ((z_up_k (by decide)).trans (by decide +kernel))))) ?_
      refine T_if1 (by decide) ?_
      refine T_rN ?_
      refine T_if1 (by decide +kernel) ?_
      refine T_up ?_
      refine T_if1 (by decide +kernel) ?_
      refine T_up0 ((z_up_j (by decide)).trans ((z_up_k (by decide)).trans ((z_up_k (by decide)).trans ((z_up_k (by decide)).trans ((z_up_k (by decide)).trans (by decide +kernel)))))) ?_
      refine T_rN ?_
      refine T_if1 (by decide +kernel) ?_
      refine T_let 0 ((z_up_j (by decide)).trans ((z_up_k (by decide)).trans ((z_up_k (by decide)).trans ((z_up_k (by decide)).trans ((z_up_k (by decide)).trans (by decide +kernel)))))) ?_
      refine T_if1 (by decide) ?_
      refine T_if1 (by decide +kernel) ?_
      refine T_let 312 (by decide +kernel) ?_
      refine T_if1 (by decide +kernel) ?_
      refine T_let 120 ((z_up_k (by decide)).trans ((z_up_k (by decide)).trans ((z_up_k (by decide)).trans ((z_up_k (by decide)).trans ((z_up_k (by decide)).trans (by decide +kernel)))))) ?_
      refine T_if1 (by decide +kernel) ?_
      refine T_let 312 (by decide +kernel) ?_
      refine T_if1 (by decide +kernel) ?_
      refine T_let 0 ((z_up_k (by decide)).trans ((z_up_k (by decide)).trans ((z_up_k (by decide)).trans ((z_up_k (by decide)).trans ((z_up_k (by decide)).trans (by decide +kernel)))))) ?_
      refine T_if1 (by decide +kernel) ?_
      refine T_bI ?_
      refine T_of (fX12_breaks.eq_1 ..) ?_
      refine T_if1 (by decide) ?_
      refine T_of (fX12_breaks_L15.eq_2 ..) ?_
      refine T_if1 (by decide +kernel) ?_
      refine T_let 0 ((z_up_j (by decide)).trans ((z_up_k (by decide)).trans ((z_up_k (by decide)).trans ((z_up_k (by decide)).trans ((z_up_k (by decide)).trans (by decide +kernel)))))) ?_
      refine T_if1 (by decide) ?_
      refine T_if1 (by decide +kernel) ?_
      refine T_let 3438 (by decide +kernel) ?_
      refine T_if1 (by decide +kernel) ?_
      refine T_let 0 ((z_up_j (by decide)).trans ((z_up_k (by decide)).trans ((z_up_k (by decide)).trans ((z_up_k (by decide)).trans ((z_up_k (by decide)).trans (by decide +kernel)))))) ?_
      refine T_if1 (by decide +kernel) ?_
      refine T_up0 ((z_up_k (by decide)).trans ((z_up_k (by decide)).trans ((z_up_k (by decide)).trans ((z_up_k (by decide)).trans ((z_up_k (by decide)).trans (by decide +kernel)))))) ?_
      refine T_rI ?_
      refine T_if1 (by decide +kernel) ?_
      refine T_up0 ((z_up_j (by decide)).trans ((z_up_k (by decide)).trans ((z_up_k (by decide)).trans ((z_up_k (by decide)).trans ((z_up_k (by decide)).trans (by decide +kernel)))))) ?_
      refine T_if1 (by decide +kernel) ?_
      refine T_up0 ((z_up_j (by decide)).trans ((z_up_k (by decide)).trans ((z_up_k (by decide)).trans ((z_up_k (by decide)).trans ((z_up_k (by decide)).trans (by decide +kernel)))))) ?_
      refine T_of (fX12_laysAll_L39.eq_2 ..) ?_
      refine T_if1 (by decide +kernel) ?_
      refine T_let 0 ((z_up_j (by decide)).trans ((z_up_k (by decide)).trans ((z_up_k (by decide)).trans ((z_up_k (by decide)).trans ((z_up_k (by decide)).trans (by decide +kernel)))))) ?_
      refine T_if1 (by decide) ?_
      refine T_if1 (by decide +kernel) ?_
      refine T_up ?_
      refine T_rN ?_
      refine T_of (fX12_laysGutters_L6.eq_2 ..) ?_
      refine T_if1 (by decide +kernel) ?_
      refine T_let 0 ((z_up_j (by decide)).trans ((z_up_j (by decide)).trans ((z_up_k (by decide)).trans ((z_up_k (by decide)).trans ((z_up_k (by decide)).trans ((z_up_k (by decide)).trans (by decide +kernel))))))) ?_
      refine T_if1 (by decide) ?_
      refine T_rN ?_
      refine T_of (fX12_narrow_L39.eq_2 ..) ?_
      refine T_if0 (by decide) ?_
      refine T_if1 (by decide +kernel) ?_
      refine T_bI ?_
      refine T_of (fX12_pagesBy.eq_1 ..) ?_
      refine T_of (fX12_pagesBy_L4.eq_2 ..) ?_
      refine T_if1 (by decide +kernel) ?_
      refine T_let 0 ((z_up_j (by decide)).trans ((z_up_j (by decide)).trans ((z_up_k (by decide)).trans ((z_up_k (by decide)).trans ((z_up_k (by decide)).trans ((z_up_k (by decide)).trans (by decide +kernel))))))) ?_
      refine T_if1 (by decide) ?_
      refine T_if1 (by decide +kernel) ?_
      refine T_let 7653 (by decide +kernel) ?_
      refine T_if1 (by decide +kernel) ?_
      refine T_let 0 ((z_up_j (by decide)).trans ((z_up_j (by decide)).trans ((z_up_k (by decide)).trans ((z_up_k (by decide)).trans ((z_up_k (by decide)).trans ((z_up_k (by decide)).trans (by decide +kernel))))))) ?_
      refine T_if1 (by decide +kernel) ?_
      refine T_up0 ((z_up_k (by decide)).trans ((z_up_k (by decide)).trans ((z_up_k (by decide)).trans ((z_up_k (by decide)).trans ((z_up_k (by decide)).trans ((z_up_k (by decide)).trans (by decide +kernel))))))) ?_
      refine T_rI ?_
      refine T_if0 (by omega) ?_
      refine T_rI ?_
      refine T_if1 (by decide +kernel) ?_
      refine T_bI ?_
      refine T_of (fX12_thrown.eq_1 ..) ?_
      refine T_if1 (by decide +kernel) ?_
      refine T_let 0 ((z_up_j (by decide)).trans ((z_up_j (by decide)).trans ((z_up_k (by decide)).trans ((z_up_k (by decide)).trans ((z_up_k (by decide)).trans ((z_up_k (by decide)).trans (by decide +kernel))))))) ?_
      refine T_rI ?_
      refine T_if1 (by decide) ?_
      refine T_if0 (by decide) ?_
      refine T_if1 (by decide +kernel) ?_
      refine T_let 12 ((z_up_k (by decide)).trans ((z_up_k (by decide)).trans z_up_s)) ?_
      refine T_let 0 (by decide +kernel) ?_
      refine T_if1 (by decide) ?_
      refine T_of (fL_law_J2045.eq_1 ..) ?_
      refine T_of (fL_law_J2073.eq_1 ..) ?_
      refine T_let 6 (by decide +kernel) ?_
      exact hr _
    · refine T_of (fX11_needWithin_J10.eq_1 ..) ?_
      refine T_if1 (by decide +kernel) ?_
      refine T_let 0 (by decide +kernel) ?_
      refine T_let 1 (by decide +kernel) ?_
      refine T_if1 (by decide +kernel) ?_
      refine T_up ?_
      refine T_xN ?_
      refine T_x1I ?_
      refine T_rI ?_
      refine T_let 1 (by decide +kernel) ?_
      refine T_if1 (by decide) ?_
      refine T_let p1 q1 ?_
      refine T_if1 (by decide +kernel) ?_
      refine T_bI ?_
      refine T_of (fX12_narrow.eq_1 ..) ?_
      refine T_if1 (by decide +kernel) ?_
      refine T_up0 ((z_up_k (by decide)).trans (by decide +kernel)) ?_
      refine T_bI ?_
      refine T_of (fX12_in.eq_1 ..) ?_
      refine T_if0 (by omega) ?_
      refine T_if1 (by omega) ?_
      refine T_of (fX12_in_J14.eq_1 ..) ?_
      refine T_of (fX12_in_J15.eq_1 ..) ?_
      refine T_if1 (by decide) ?_
      refine T_rI ?_
      refine T_if0 (by decide) ?_
      refine T_of (fX12_narrow_J22.eq_1 ..) ?_
      refine T_if1 (by decide +kernel) ?_
      refine T_bI ?_
      refine T_of (fX12_bad.eq_1 ..) ?_
      refine T_if0 (by decide) ?_
      refine T_if1 (by decide +kernel) ?_
      refine T_let 0 ((z_up_k (by decide)).trans (by decide +kernel)) ?_
      refine T_if0 (by decide) ?_
      refine T_if1 (by decide +kernel) ?_
      refine T_up ?_
      refine T_if1 (by decide +kernel) ?_
      refine T_let 310 (by decide +kernel) ?_
      refine T_if1 (by decide +kernel) ?_
      refine T_let 0 ((z_up_k (by decide)).trans ((z_up_k (by decide)).trans (by decide +kernel))) ?_
      refine T_let 1 (by decide +kernel) ?_
      refine T_if1 (by decide +kernel) ?_
      refine T_up ?_
      refine T_of (fX12_bad_J26.eq_1 ..) ?_
      refine T_if1 (by decide +kernel) ?_
      refine T_let 1 ((z_up_k (by decide)).trans z_up_s) ?_
      refine T_if0 (by decide) ?_
      refine T_of (fX12_bad_J38.eq_1 ..) ?_
      refine T_if1 (by decide) ?_
      refine T_rI ?_
      refine T_if0 (by decide) ?_
      refine T_rI ?_
      refine T_if1 (by decide +kernel) ?_
      refine T_bI ?_
      refine T_of (fX12_thrown.eq_1 ..) ?_
      refine T_if1 (by decide +kernel) ?_
      refine T_let 1 ((z_up_k (by decide)).trans z_up_s) ?_
      refine T_rI ?_
      refine T_if1 (by decide) ?_
      refine T_if1 (by decide) ?_
      refine T_of (fL_law_J2045.eq_1 ..) ?_
      refine T_of (fL_law_J2073.eq_1 ..) ?_
      refine T_let 6 (by decide +kernel) ?_
      exact hr _
theorem c_2048 {xs : Nat → Int32} {r : z_M → Int → z_O} {k : z_M → z_O} {P : z_V → z_M → Prop} {p1 p2 p3 p4 p5 : Int} (q1 : Int32.toInt (xs 1) = p1) (q2 : Int32.toInt (xs 2) = p2) (q3 : Int32.toInt (xs 3) = p3) (q4 : Int32.toInt (xs 4) = p4) (q5 : Int32.toInt (xs 5) = p5) (hr : ∀ s, z_T (r s 6) P) : z_T (fL_law_J2048 1000 6 xs z_s0 1 309 7658 0 r k) P := by
  refine T_of (fL_law_J2048.eq_1 ..) ?_
  refine T_let 1 (by decide +kernel) ?_
  refine T_if1 (by decide) ?_
  refine T_let p1 q1 ?_
  refine T_if1 (by decide +kernel) ?_
  refine T_bI ?_
  refine T_of (fX11_status.eq_1 ..) ?_
  refine T_ite (fun h1 => ?_) (fun h1 => ?_)
  · refine T_ite (fun h2 => ?_) (fun h2 => ?_)
    · refine T_of (fX11_status_J24.eq_1 ..) ?_
      refine T_rI ?_
      refine T_let 1 (by decide +kernel) ?_
      refine T_if1 (by decide) ?_
      refine T_let p1 q1 ?_
      refine T_if1 (by decide +kernel) ?_
      refine T_bI ?_
      refine T_of (fX12_status.eq_1 ..) ?_
      refine T_if1 (by decide +kernel) ?_
      refine T_up0 (by decide +kernel) ?_
      refine T_bI ?_
      refine T_of (fX12_in.eq_1 ..) ?_
      refine T_ite (fun h3 => ?_) (fun h3 => ?_)
      · refine T_of (fX12_in_J14.eq_1 ..) ?_
        refine T_of (fX12_in_J15.eq_1 ..) ?_
        refine T_if1 (by decide) ?_
        refine T_rI ?_
        refine T_if1 (by decide) ?_
        refine T_of (fX12_status_J24.eq_1 ..) ?_
        refine T_rI ?_
        refine T_if1 (by decide) ?_
        refine T_of (fL_law_J2073.eq_1 ..) ?_
        refine T_let 6 (by decide +kernel) ?_
        exact hr _
      · refine T_ite (fun h4 => ?_) (fun h4 => ?_)
        · refine T_of (fX12_in_J14.eq_1 ..) ?_
          refine T_of (fX12_in_J15.eq_1 ..) ?_
          refine T_if1 (by decide) ?_
          refine T_rI ?_
          refine T_if1 (by decide) ?_
          refine T_of (fX12_status_J24.eq_1 ..) ?_
          refine T_rI ?_
          refine T_if1 (by decide) ?_
          refine T_of (fL_law_J2073.eq_1 ..) ?_
          refine T_let 6 (by decide +kernel) ?_
          exact hr _
        · refine T_of (fX12_in_J15.eq_1 ..) ?_
          refine T_if1 (by decide) ?_
          refine T_rI ?_
          refine T_if0 (by decide) ?_
          refine T_if1 (by decide +kernel) ?_
          refine T_let 310 (by decide +kernel) ?_
          exfalso
          omega
    · have h2 := Decidable.not_not.mp h2
      subst h2
      refine T_if1 (by decide +kernel) ?_
      refine T_let 0 (by decide +kernel) ?_
      refine T_of (fX11_status_J24.eq_1 ..) ?_
      refine T_rI ?_
      refine T_let 1 (by decide +kernel) ?_
      refine T_if1 (by decide) ?_
      refine T_let 1 q1 ?_
      refine T_if1 (by decide +kernel) ?_
      refine T_bI ?_
      refine T_of (fX12_status.eq_1 ..) ?_
      refine T_if1 (by decide +kernel) ?_
      refine T_up0 (by decide +kernel) ?_
      refine T_bI ?_
      refine T_of (fX12_in.eq_1 ..) ?_
      refine T_if0 (by decide) ?_
      refine T_if0 (by decide) ?_
      refine T_of (fX12_in_J15.eq_1 ..) ?_
      refine T_if1 (by decide) ?_
      refine T_rI ?_
      refine T_if0 (by decide) ?_
      refine T_if1 (by decide +kernel) ?_
      refine T_let 310 (by decide +kernel) ?_
      refine T_if1 (by decide +kernel) ?_
      refine T_let 0 (by decide +kernel) ?_
      refine T_of (fX12_status_J24.eq_1 ..) ?_
      refine T_rI ?_
      refine T_if1 (by decide) ?_
      refine T_of (fL_law_J2073.eq_1 ..) ?_
      refine T_let 6 (by decide +kernel) ?_
      exact hr _
  · have h1 := Decidable.not_not.mp h1
    subst h1
    refine T_if1 (by decide +kernel) ?_
    refine T_let 0 (by decide +kernel) ?_
    refine T_of (fX11_status_J24.eq_1 ..) ?_
    refine T_rI ?_
    refine T_let 1 (by decide +kernel) ?_
    refine T_if1 (by decide) ?_
    refine T_let 0 q1 ?_
    refine T_if1 (by decide +kernel) ?_
    refine T_bI ?_
    refine T_of (fX12_status.eq_1 ..) ?_
    refine T_if1 (by decide +kernel) ?_
    refine T_up0 (by decide +kernel) ?_
    refine T_bI ?_
    refine T_of (fX12_in.eq_1 ..) ?_
    refine T_if0 (by decide) ?_
    refine T_if0 (by decide) ?_
    refine T_of (fX12_in_J15.eq_1 ..) ?_
    refine T_if1 (by decide) ?_
    refine T_rI ?_
    refine T_if0 (by decide) ?_
    refine T_if1 (by decide +kernel) ?_
    refine T_let 310 (by decide +kernel) ?_
    refine T_if1 (by decide +kernel) ?_
    refine T_let 0 (by decide +kernel) ?_
    refine T_of (fX12_status_J24.eq_1 ..) ?_
    refine T_rI ?_
    refine T_if1 (by decide) ?_
    refine T_of (fL_law_J2073.eq_1 ..) ?_
    refine T_let 6 (by decide +kernel) ?_
    exact hr _
