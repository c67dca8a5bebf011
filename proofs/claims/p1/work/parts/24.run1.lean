/-! THE RUNS of one call on a fresh object (by program, wip/tool/mkrun.py) -/
theorem c_188 {xs : Nat → Int32} {r : z_M → Int → z_O} {k : z_M → z_O} {P : z_V → z_M → Prop} {p1 p2 p3 p4 p5 : Int} (q1 : Int32.toInt (xs 1) = p1) (q2 : Int32.toInt (xs 2) = p2) (q3 : Int32.toInt (xs 3) = p3) (q4 : Int32.toInt (xs 4) = p4) (q5 : Int32.toInt (xs 5) = p5) (hr : ∀ s, z_T (r s 6) P) : z_T (fL_law_J188 1000 6 xs z_s0 1 309 7658 0 r k) P := by
  refine T_of (fL_law_J188.eq_1 ..) ?_
  refine T_let 1 (by decide +kernel) ?_
  refine T_if1 (by decide) ?_
  refine T_let p1 q1 ?_
  refine T_let 2 (by decide +kernel) ?_
  refine T_if1 (by decide) ?_
  refine T_let p2 q2 ?_
  refine T_let 3 (by decide +kernel) ?_
  refine T_if1 (by decide) ?_
  refine T_let p3 q3 ?_
  refine T_let 4 (by decide +kernel) ?_
  refine T_if1 (by decide) ?_
  refine T_let p4 q4 ?_
  refine T_let 5 (by decide +kernel) ?_
  refine T_if1 (by decide) ?_
  refine T_let p5 q5 ?_
  refine T_if1 (by decide +kernel) ?_
  refine T_bI ?_
  refine T_of (fX11_feed.eq_1 ..) ?_
  refine T_if1 (by decide +kernel) ?_
  refine T_let 0 (by decide +kernel) ?_
  refine T_if1 (by decide) ?_
  refine T_if1 (by decide +kernel) ?_
  refine T_bN ?_
  refine T_of (fX11_tapeNumber.eq_1 ..) ?_
  refine T_of (fX11_tapeNumber_L3.eq_2 ..) ?_
  refine T_if0 (by decide) ?_
  refine T_if1 (by decide +kernel) ?_
  refine T_let 4 (by decide +kernel) ?_
  refine T_if1 (by decide +kernel) ?_
  refine T_let 0 (by decide +kernel) ?_
  refine T_letg (fun x1 => ?_)
  refine T_letg (fun x2 => ?_)
  refine T_if1 (by decide +kernel) ?_
  refine T_bN ?_
  refine T_of (fX7_put.eq_1 ..) ?_
  refine T_if0 (by decide) ?_
  refine T_if1 (by decide +kernel) ?_
  refine T_let 5 (by decide +kernel) ?_
  refine T_if1 (by decide +kernel) ?_
  refine T_let 300 (by decide +kernel) ?_
  refine T_if0 (by decide) ?_
  refine T_if1 (by decide +kernel) ?_
  refine T_let 5 (by decide +kernel) ?_
  refine T_if1 (by decide +kernel) ?_
  refine T_up ?_
  refine T_of (fX7_put_J20.eq_1 ..) ?_
  refine T_rN ?_
  refine T_if1 (by decide +kernel) ?_
  refine T_let 0 ((z_up_k (by decide)).trans (by decide +kernel)) ?_
  refine T_let 1 (by decide +kernel) ?_
  refine T_if1 (by decide +kernel) ?_
  refine T_up ?_
  refine T_let 16 (by decide +kernel) ?_
  refine T_of (fX11_tapeNumber_L3.eq_2 ..) ?_
  refine T_if0 (by decide) ?_
  refine T_if1 (by decide +kernel) ?_
  refine T_let 4 (by decide +kernel) ?_
  refine T_if1 (by decide +kernel) ?_
  refine T_let 1 z_up_s ?_
  refine T_letg (fun x3 => ?_)
  refine T_letg (fun x4 => ?_)
  refine T_if1 (by decide +kernel) ?_
  refine T_bN ?_
  refine T_of (fX7_put.eq_1 ..) ?_
  refine T_if0 (by decide) ?_
  refine T_if1 (by decide +kernel) ?_
  refine T_let 5 (by decide +kernel) ?_
  refine T_if1 (by decide +kernel) ?_
  refine T_let 300 (by decide +kernel) ?_
  refine T_if0 (by decide) ?_
  refine T_if1 (by decide +kernel) ?_
  refine T_let 5 (by decide +kernel) ?_
  refine T_if1 (by decide +kernel) ?_
  refine T_up ?_
  refine T_of (fX7_put_J20.eq_1 ..) ?_
  refine T_rN ?_
  refine T_if1 (by decide +kernel) ?_
  refine T_let 1 ((z_up_k (by decide)).trans z_up_s) ?_
  refine T_let 2 (by decide +kernel) ?_
  refine T_if1 (by decide +kernel) ?_
  refine T_up ?_
  refine T_let 8 (by decide +kernel) ?_
  refine T_of (fX11_tapeNumber_L3.eq_2 ..) ?_
  refine T_if0 (by decide) ?_
  refine T_if1 (by decide +kernel) ?_
  refine T_let 4 (by decide +kernel) ?_
  refine T_if1 (by decide +kernel) ?_
  refine T_let 2 z_up_s ?_
  refine T_letg (fun x5 => ?_)
  refine T_letg (fun x6 => ?_)
  refine T_if1 (by decide +kernel) ?_
  refine T_bN ?_
  refine T_of (fX7_put.eq_1 ..) ?_
  refine T_if0 (by decide) ?_
  refine T_if1 (by decide +kernel) ?_
  refine T_let 5 (by decide +kernel) ?_
  refine T_if1 (by decide +kernel) ?_
  refine T_let 300 (by decide +kernel) ?_
  refine T_if0 (by decide) ?_
  refine T_if1 (by decide +kernel) ?_
  refine T_let 5 (by decide +kernel) ?_
  refine T_if1 (by decide +kernel) ?_
  refine T_up ?_
  refine T_of (fX7_put_J20.eq_1 ..) ?_
  refine T_rN ?_
  refine T_if1 (by decide +kernel) ?_
  refine T_let 2 ((z_up_k (by decide)).trans z_up_s) ?_
  refine T_let 3 (by decide +kernel) ?_
  refine T_if1 (by decide +kernel) ?_
  refine T_up ?_
  refine T_let 0 (by decide +kernel) ?_
  refine T_of (fX11_tapeNumber_L3.eq_2 ..) ?_
  refine T_if0 (by decide) ?_
  refine T_if1 (by decide +kernel) ?_
  refine T_let 4 (by decide +kernel) ?_
  refine T_if1 (by decide +kernel) ?_
  refine T_let 3 z_up_s ?_
  refine T_letg (fun x7 => ?_)
  refine T_letg (fun x8 => ?_)
  refine T_if1 (by decide +kernel) ?_
  refine T_bN ?_
  refine T_of (fX7_put.eq_1 ..) ?_
  refine T_if0 (by decide) ?_
  refine T_if1 (by decide +kernel) ?_
  refine T_let 5 (by decide +kernel) ?_
  refine T_if1 (by decide +kernel) ?_
  refine T_let 300 (by decide +kernel) ?_
  refine T_if0 (by decide) ?_
  refine T_if1 (by decide +kernel) ?_
  refine T_let 5 (by decide +kernel) ?_
  refine T_if1 (by decide +kernel) ?_
  refine T_up ?_
  refine T_of (fX7_put_J20.eq_1 ..) ?_
  refine T_rN ?_
  refine T_if1 (by decide +kernel) ?_
  refine T_let 3 ((z_up_k (by decide)).trans z_up_s) ?_
  refine T_let 4 (by decide +kernel) ?_
  refine T_if1 (by decide +kernel) ?_
  refine T_up ?_
  refine T_let (-8) (by decide +kernel) ?_
  refine T_of (fX11_tapeNumber_L3.eq_2 ..) ?_
  refine T_if1 (by decide) ?_
  refine T_rN ?_
  refine T_if1 (by decide +kernel) ?_
  refine T_bN ?_
  refine T_of (fX11_tapeNumber.eq_1 ..) ?_
  refine T_of (fX11_tapeNumber_L3.eq_2 ..) ?_
  refine T_if0 (by decide) ?_
  refine T_if1 (by decide +kernel) ?_
  refine T_let 4 (by decide +kernel) ?_
  refine T_if1 (by decide +kernel) ?_
  refine T_let 4 z_up_s ?_
  refine T_letg (fun x9 => ?_)
  refine T_letg (fun x10 => ?_)
  refine T_if1 (by decide +kernel) ?_
  refine T_bN ?_
  refine T_of (fX7_put.eq_1 ..) ?_
  refine T_if0 (by decide) ?_
  refine T_if1 (by decide +kernel) ?_
  refine T_let 5 (by decide +kernel) ?_
  refine T_if1 (by decide +kernel) ?_
  refine T_let 300 (by decide +kernel) ?_
  refine T_if0 (by decide) ?_
  refine T_if1 (by decide +kernel) ?_
  refine T_let 5 (by decide +kernel) ?_
  refine T_if1 (by decide +kernel) ?_
  refine T_up ?_
  refine T_of (fX7_put_J20.eq_1 ..) ?_
  refine T_rN ?_
  refine T_if1 (by decide +kernel) ?_
  refine T_let 4 ((z_up_k (by decide)).trans z_up_s) ?_
  refine T_let 5 (by decide +kernel) ?_
  refine T_if1 (by decide +kernel) ?_
  refine T_up ?_
  refine T_let 16 (by decide +kernel) ?_
  refine T_of (fX11_tapeNumber_L3.eq_2 ..) ?_
  refine T_if0 (by decide) ?_
  refine T_if1 (by decide +kernel) ?_
  refine T_let 4 (by decide +kernel) ?_
  refine T_if1 (by decide +kernel) ?_
  refine T_let 5 z_up_s ?_
  refine T_letg (fun x11 => ?_)
  refine T_letg (fun x12 => ?_)
  refine T_if1 (by decide +kernel) ?_
  refine T_bN ?_
  refine T_of (fX7_put.eq_1 ..) ?_
  refine T_if0 (by decide) ?_
  refine T_if1 (by decide +kernel) ?_
  refine T_let 5 (by decide +kernel) ?_
  refine T_if1 (by decide +kernel) ?_
  refine T_let 300 (by decide +kernel) ?_
  refine T_if0 (by decide) ?_
  refine T_if1 (by decide +kernel) ?_
  refine T_let 5 (by decide +kernel) ?_
  refine T_if1 (by decide +kernel) ?_
  refine T_up ?_
  refine T_of (fX7_put_J20.eq_1 ..) ?_
  refine T_rN ?_
  refine T_if1 (by decide +kernel) ?_
  refine T_let 5 ((z_up_k (by decide)).trans z_up_s) ?_
  refine T_let 6 (by decide +kernel) ?_
  refine T_if1 (by decide +kernel) ?_
  refine T_up ?_
  refine T_let 8 (by decide +kernel) ?_
  refine T_of (fX11_tapeNumber_L3.eq_2 ..) ?_
  refine T_if0 (by decide) ?_
  refine T_if1 (by decide +kernel) ?_
  refine T_let 4 (by decide +kernel) ?_
  refine T_if1 (by decide +kernel) ?_
  refine T_let 6 z_up_s ?_
  refine T_letg (fun x13 => ?_)
  refine T_letg (fun x14 => ?_)
  refine T_if1 (by decide +kernel) ?_
  refine T_bN ?_
  refine T_of (fX7_put.eq_1 ..) ?_
  refine T_if0 (by decide) ?_
  refine T_if1 (by decide +kernel) ?_
  refine T_let 5 (by decide +kernel) ?_
  refine T_if1 (by decide +kernel) ?_
  refine T_let 300 (by decide +kernel) ?_
  refine T_if0 (by decide) ?_
  refine T_if1 (by decide +kernel) ?_
  refine T_let 5 (by decide +kernel) ?_
  refine T_if1 (by decide +kernel) ?_
  refine T_up ?_
  refine T_of (fX7_put_J20.eq_1 ..) ?_
  refine T_rN ?_
  refine T_if1 (by decide +kernel) ?_
  refine T_let 6 ((z_up_k (by decide)).trans z_up_s) ?_
  refine T_let 7 (by decide +kernel) ?_
  refine T_if1 (by decide +kernel) ?_
  refine T_up ?_
  refine T_let 0 (by decide +kernel) ?_
  refine T_of (fX11_tapeNumber_L3.eq_2 ..) ?_
  refine T_if0 (by decide) ?_
  refine T_if1 (by decide +kernel) ?_
  refine T_let 4 (by decide +kernel) ?_
  refine T_if1 (by decide +kernel) ?_
  refine T_let 7 z_up_s ?_
  refine T_letg (fun x15 => ?_)
  refine T_letg (fun x16 => ?_)
  refine T_if1 (by decide +kernel) ?_
  refine T_bN ?_
  refine T_of (fX7_put.eq_1 ..) ?_
  refine T_if0 (by decide) ?_
  refine T_if1 (by decide +kernel) ?_
  refine T_let 5 (by decide +kernel) ?_
  refine T_if1 (by decide +kernel) ?_
  refine T_let 300 (by decide +kernel) ?_
  refine T_if0 (by decide) ?_
  refine T_if1 (by decide +kernel) ?_
  refine T_let 5 (by decide +kernel) ?_
  refine T_if1 (by decide +kernel) ?_
  refine T_up ?_
  refine T_of (fX7_put_J20.eq_1 ..) ?_
  refine T_rN ?_
  refine T_if1 (by decide +kernel) ?_
  refine T_let 7 ((z_up_k (by decide)).trans z_up_s) ?_
  refine T_let 8 (by decide +kernel) ?_
  refine T_if1 (by decide +kernel) ?_
  refine T_up ?_
  refine T_let (-8) (by decide +kernel) ?_
  refine T_of (fX11_tapeNumber_L3.eq_2 ..) ?_
  refine T_if1 (by decide) ?_
  refine T_rN ?_
  refine T_if1 (by decide +kernel) ?_
  refine T_bN ?_
  refine T_of (fX11_tapeNumber.eq_1 ..) ?_
  refine T_of (fX11_tapeNumber_L3.eq_2 ..) ?_
  refine T_if0 (by decide) ?_
  refine T_if1 (by decide +kernel) ?_
  refine T_let 4 (by decide +kernel) ?_
  refine T_if1 (by decide +kernel) ?_
  refine T_let 8 z_up_s ?_
  refine T_letg (fun x17 => ?_)
  refine T_letg (fun x18 => ?_)
  refine T_if1 (by decide +kernel) ?_
  refine T_bN ?_
  refine T_of (fX7_put.eq_1 ..) ?_
  refine T_if0 (by decide) ?_
  refine T_if1 (by decide +kernel) ?_
  refine T_let 5 (by decide +kernel) ?_
  refine T_if1 (by decide +kernel) ?_
  refine T_let 300 (by decide +kernel) ?_
  refine T_if0 (by decide) ?_
  refine T_if1 (by decide +kernel) ?_
  refine T_let 5 (by decide +kernel) ?_
  refine T_if1 (by decide +kernel) ?_
  refine T_up ?_
  refine T_of (fX7_put_J20.eq_1 ..) ?_
  refine T_rN ?_
  refine T_if1 (by decide +kernel) ?_
  refine T_let 8 ((z_up_k (by decide)).trans z_up_s) ?_
  refine T_let 9 (by decide +kernel) ?_
  refine T_if1 (by decide +kernel) ?_
  refine T_up ?_
  refine T_let 16 (by decide +kernel) ?_
  refine T_of (fX11_tapeNumber_L3.eq_2 ..) ?_
  refine T_if0 (by decide) ?_
  refine T_if1 (by decide +kernel) ?_
  refine T_let 4 (by decide +kernel) ?_
  refine T_if1 (by decide +kernel) ?_
  refine T_let 9 z_up_s ?_
  refine T_letg (fun x19 => ?_)
  refine T_letg (fun x20 => ?_)
  refine T_if1 (by decide +kernel) ?_
  refine T_bN ?_
  refine T_of (fX7_put.eq_1 ..) ?_
  refine T_if0 (by decide) ?_
  refine T_if1 (by decide +kernel) ?_
  refine T_let 5 (by decide +kernel) ?_
  refine T_if1 (by decide +kernel) ?_
  refine T_let 300 (by decide +kernel) ?_
  refine T_if0 (by decide) ?_
  refine T_if1 (by decide +kernel) ?_
  refine T_let 5 (by decide +kernel) ?_
  refine T_if1 (by decide +kernel) ?_
  refine T_up ?_
  refine T_of (fX7_put_J20.eq_1 ..) ?_
  refine T_rN ?_
  refine T_if1 (by decide +kernel) ?_
  refine T_let 9 ((z_up_k (by decide)).trans z_up_s) ?_
  refine T_let 10 (by decide +kernel) ?_
  refine T_if1 (by decide +kernel) ?_
  refine T_up ?_
  refine T_let 8 (by decide +kernel) ?_
  refine T_of (fX11_tapeNumber_L3.eq_2 ..) ?_
  refine T_if0 (by decide) ?_
  refine T_if1 (by decide +kernel) ?_
  refine T_let 4 (by decide +kernel) ?_
  refine T_if1 (by decide +kernel) ?_
  refine T_let 10 z_up_s ?_
  refine T_letg (fun x21 => ?_)
  refine T_letg (fun x22 => ?_)
  refine T_if1 (by decide +kernel) ?_
  refine T_bN ?_
  refine T_of (fX7_put.eq_1 ..) ?_
  refine T_if0 (by decide) ?_
  refine T_if1 (by decide +kernel) ?_
  refine T_let 5 (by decide +kernel) ?_
  refine T_if1 (by decide +kernel) ?_
  refine T_let 300 (by decide +kernel) ?_
  refine T_if0 (by decide) ?_
  refine T_if1 (by decide +kernel) ?_
  refine T_let 5 (by decide +kernel) ?_
  refine T_if1 (by decide +kernel) ?_
  refine T_up ?_
  refine T_of (fX7_put_J20.eq_1 ..) ?_
  refine T_rN ?_
  refine T_if1 (by decide +kernel) ?_
  refine T_let 10 ((z_up_k (by decide)).trans z_up_s) ?_
  refine T_let 11 (by decide +kernel) ?_
  refine T_if1 (by decide +kernel) ?_
  refine T_up ?_
  refine T_let 0 (by decide +kernel) ?_
  refine T_of (fX11_tapeNumber_L3.eq_2 ..) ?_
  refine T_if0 (by decide) ?_
  refine T_if1 (by decide +kernel) ?_
  refine T_let 4 (by decide +kernel) ?_
  refine T_if1 (by decide +kernel) ?_
  refine T_let 11 z_up_s ?_
  refine T_letg (fun x23 => ?_)
  refine T_letg (fun x24 => ?_)
  refine T_if1 (by decide +kernel) ?_
  refine T_bN ?_
  refine T_of (fX7_put.eq_1 ..) ?_
  refine T_if0 (by decide) ?_
  refine T_if1 (by decide +kernel) ?_
  refine T_let 5 (by decide +kernel) ?_
  refine T_if1 (by decide +kernel) ?_
  refine T_let 300 (by decide +kernel) ?_
  refine T_if0 (by decide) ?_
  refine T_if1 (by decide +kernel) ?_
  refine T_let 5 (by decide +kernel) ?_
  refine T_if1 (by decide +kernel) ?_
  refine T_up ?_
  refine T_of (fX7_put_J20.eq_1 ..) ?_
  refine T_rN ?_
  refine T_if1 (by decide +kernel) ?_
  refine T_let 11 ((z_up_k (by decide)).trans z_up_s) ?_
  refine T_let 12 (by decide +kernel) ?_
  refine T_if1 (by decide +kernel) ?_
  refine T_up ?_
  refine T_let (-8) (by decide +kernel) ?_
  refine T_of (fX11_tapeNumber_L3.eq_2 ..) ?_
  refine T_if1 (by decide) ?_
  refine T_rN ?_
  refine T_if1 (by decide +kernel) ?_
  refine T_bN ?_
  refine T_of (fX11_tapeNumber.eq_1 ..) ?_
  refine T_of (fX11_tapeNumber_L3.eq_2 ..) ?_
  refine T_if0 (by decide) ?_
  refine T_if1 (by decide +kernel) ?_
  refine T_let 4 (by decide +kernel) ?_
  refine T_if1 (by decide +kernel) ?_
  refine T_let 12 z_up_s ?_
  refine T_letg (fun x25 => ?_)
  refine T_letg (fun x26 => ?_)
  refine T_if1 (by decide +kernel) ?_
  refine T_bN ?_
  refine T_of (fX7_put.eq_1 ..) ?_
  refine T_if0 (by decide) ?_
  refine T_if1 (by decide +kernel) ?_
  refine T_let 5 (by decide +kernel) ?_
  refine T_if1 (by decide +kernel) ?_
  refine T_let 300 (by decide +kernel) ?_
  refine T_if0 (by decide) ?_
  refine T_if1 (by decide +kernel) ?_
  refine T_let 5 (by decide +kernel) ?_
  refine T_if1 (by decide +kernel) ?_
  refine T_up ?_
  refine T_of (fX7_put_J20.eq_1 ..) ?_
  refine T_rN ?_
  refine T_if1 (by decide +kernel) ?_
  refine T_let 12 ((z_up_k (by decide)).trans z_up_s) ?_
  refine T_let 13 (by decide +kernel) ?_
  refine T_if1 (by decide +kernel) ?_
  refine T_up ?_
  refine T_let 16 (by decide +kernel) ?_
  refine T_of (fX11_tapeNumber_L3.eq_2 ..) ?_
  refine T_if0 (by decide) ?_
  refine T_if1 (by decide +kernel) ?_
  refine T_let 4 (by decide +kernel) ?_
  refine T_if1 (by decide +kernel) ?_
  refine T_let 13 z_up_s ?_
  refine T_letg (fun x27 => ?_)
  refine T_letg (fun x28 => ?_)
  refine T_if1 (by decide +kernel) ?_
  refine T_bN ?_
  refine T_of (fX7_put.eq_1 ..) ?_
  refine T_if0 (by decide) ?_
  refine T_if1 (by decide +kernel) ?_
  refine T_let 5 (by decide +kernel) ?_
  refine T_if1 (by decide +kernel) ?_
  refine T_let 300 (by decide +kernel) ?_
  refine T_if0 (by decide) ?_
  refine T_if1 (by decide +kernel) ?_
  refine T_let 5 (by decide +kernel) ?_
  refine T_if1 (by decide +kernel) ?_
  refine T_up ?_
  refine T_of (fX7_put_J20.eq_1 ..) ?_
  refine T_rN ?_
  refine T_if1 (by decide +kernel) ?_
  refine T_let 13 ((z_up_k (by decide)).trans z_up_s) ?_
  refine T_let 14 (by decide +kernel) ?_
  refine T_if1 (by decide +kernel) ?_
  refine T_up ?_
  refine T_let 8 (by decide +kernel) ?_
  refine T_of (fX11_tapeNumber_L3.eq_2 ..) ?_
  refine T_if0 (by decide) ?_
  refine T_if1 (by decide +kernel) ?_
  refine T_let 4 (by decide +kernel) ?_
  refine T_if1 (by decide +kernel) ?_
  refine T_let 14 z_up_s ?_
  refine T_letg (fun x29 => ?_)
  refine T_letg (fun x30 => ?_)
  refine T_if1 (by decide +kernel) ?_
  refine T_bN ?_
  refine T_of (fX7_put.eq_1 ..) ?_
  refine T_if0 (by decide) ?_
  refine T_if1 (by decide +kernel) ?_
  refine T_let 5 (by decide +kernel) ?_
  refine T_if1 (by decide +kernel) ?_
  refine T_let 300 (by decide +kernel) ?_
  refine T_if0 (by decide) ?_
  refine T_if1 (by decide +kernel) ?_
  refine T_let 5 (by decide +kernel) ?_
  refine T_if1 (by decide +kernel) ?_
  refine T_up ?_
  refine T_of (fX7_put_J20.eq_1 ..) ?_
  refine T_rN ?_
  refine T_if1 (by decide +kernel) ?_
  refine T_let 14 ((z_up_k (by decide)).trans z_up_s) ?_
  refine T_let 15 (by decide +kernel) ?_
  refine T_if1 (by decide +kernel) ?_
  refine T_up ?_
  refine T_let 0 (by decide +kernel) ?_
  refine T_of (fX11_tapeNumber_L3.eq_2 ..) ?_
  refine T_if0 (by decide) ?_
  refine T_if1 (by decide +kernel) ?_
  refine T_let 4 (by decide +kernel) ?_
  refine T_if1 (by decide +kernel) ?_
  refine T_let 15 z_up_s ?_
  refine T_letg (fun x31 => ?_)
  refine T_letg (fun x32 => ?_)
  refine T_if1 (by decide +kernel) ?_
  refine T_bN ?_
  refine T_of (fX7_put.eq_1 ..) ?_
  refine T_if0 (by decide) ?_
  refine T_if1 (by decide +kernel) ?_
  refine T_let 5 (by decide +kernel) ?_
  refine T_if1 (by decide +kernel) ?_
  refine T_let 300 (by decide +kernel) ?_
  refine T_if0 (by decide) ?_
  refine T_if1 (by decide +kernel) ?_
  refine T_let 5 (by decide +kernel) ?_
  refine T_if1 (by decide +kernel) ?_
  refine T_up ?_
  refine T_of (fX7_put_J20.eq_1 ..) ?_
  refine T_rN ?_
  refine T_if1 (by decide +kernel) ?_
  refine T_let 15 ((z_up_k (by decide)).trans z_up_s) ?_
  refine T_let 16 (by decide +kernel) ?_
  refine T_if1 (by decide +kernel) ?_
  refine T_up ?_
  refine T_let (-8) (by decide +kernel) ?_
  refine T_of (fX11_tapeNumber_L3.eq_2 ..) ?_
  refine T_if1 (by decide) ?_
  refine T_rN ?_
  refine T_if1 (by decide +kernel) ?_
  refine T_bN ?_
  refine T_of (fX11_tapeNumber.eq_1 ..) ?_
  refine T_of (fX11_tapeNumber_L3.eq_2 ..) ?_
  refine T_if0 (by decide) ?_
  refine T_if1 (by decide +kernel) ?_
  refine T_let 4 (by decide +kernel) ?_
  refine T_if1 (by decide +kernel) ?_
  refine T_let 16 z_up_s ?_
  refine T_letg (fun x33 => ?_)
  refine T_letg (fun x34 => ?_)
  refine T_if1 (by decide +kernel) ?_
  refine T_bN ?_
  refine T_of (fX7_put.eq_1 ..) ?_
  refine T_if0 (by decide) ?_
  refine T_if1 (by decide +kernel) ?_
  refine T_let 5 (by decide +kernel) ?_
  refine T_if1 (by decide +kernel) ?_
  refine T_let 300 (by decide +kernel) ?_
  refine T_if0 (by decide) ?_
  refine T_if1 (by decide +kernel) ?_
  refine T_let 5 (by decide +kernel) ?_
  refine T_if1 (by decide +kernel) ?_
  refine T_up ?_
  refine T_of (fX7_put_J20.eq_1 ..) ?_
  refine T_rN ?_
  refine T_if1 (by decide +kernel) ?_
  refine T_let 16 ((z_up_k (by decide)).trans z_up_s) ?_
  refine T_let 17 (by decide +kernel) ?_
  refine T_if1 (by decide +kernel) ?_
  refine T_up ?_
  refine T_let 16 (by decide +kernel) ?_
  refine T_of (fX11_tapeNumber_L3.eq_2 ..) ?_
  refine T_if0 (by decide) ?_
  refine T_if1 (by decide +kernel) ?_
  refine T_let 4 (by decide +kernel) ?_
  refine T_if1 (by decide +kernel) ?_
  refine T_let 17 z_up_s ?_
  refine T_letg (fun x35 => ?_)
  refine T_letg (fun x36 => ?_)
  refine T_if1 (by decide +kernel) ?_
  refine T_bN ?_
  refine T_of (fX7_put.eq_1 ..) ?_
  refine T_if0 (by decide) ?_
  refine T_if1 (by decide +kernel) ?_
  refine T_let 5 (by decide +kernel) ?_
  refine T_if1 (by decide +kernel) ?_
  refine T_let 300 (by decide +kernel) ?_
  refine T_if0 (by decide) ?_
  refine T_if1 (by decide +kernel) ?_
  refine T_let 5 (by decide +kernel) ?_
  refine T_if1 (by decide +kernel) ?_
  refine T_up ?_
  refine T_of (fX7_put_J20.eq_1 ..) ?_
  refine T_rN ?_
  refine T_if1 (by decide +kernel) ?_
  refine T_let 17 ((z_up_k (by decide)).trans z_up_s) ?_
  refine T_let 18 (by decide +kernel) ?_
  refine T_if1 (by decide +kernel) ?_
  refine T_up ?_
  refine T_let 8 (by decide +kernel) ?_
  refine T_of (fX11_tapeNumber_L3.eq_2 ..) ?_
  refine T_if0 (by decide) ?_
  refine T_if1 (by decide +kernel) ?_
  refine T_let 4 (by decide +kernel) ?_
  refine T_if1 (by decide +kernel) ?_
  refine T_let 18 z_up_s ?_
  refine T_letg (fun x37 => ?_)
  refine T_letg (fun x38 => ?_)
  refine T_if1 (by decide +kernel) ?_
  refine T_bN ?_
  refine T_of (fX7_put.eq_1 ..) ?_
  refine T_if0 (by decide) ?_
  refine T_if1 (by decide +kernel) ?_
  refine T_let 5 (by decide +kernel) ?_
  refine T_if1 (by decide +kernel) ?_
  refine T_let 300 (by decide +kernel) ?_
  refine T_if0 (by decide) ?_
  refine T_if1 (by decide +kernel) ?_
  refine T_let 5 (by decide +kernel) ?_
  refine T_if1 (by decide +kernel) ?_
  refine T_up ?_
  refine T_of (fX7_put_J20.eq_1 ..) ?_
  refine T_rN ?_
  refine T_if1 (by decide +kernel) ?_
  refine T_let 18 ((z_up_k (by decide)).trans z_up_s) ?_
  refine T_let 19 (by decide +kernel) ?_
  refine T_if1 (by decide +kernel) ?_
  refine T_up ?_
  refine T_let 0 (by decide +kernel) ?_
  refine T_of (fX11_tapeNumber_L3.eq_2 ..) ?_
  refine T_if0 (by decide) ?_
  refine T_if1 (by decide +kernel) ?_
  refine T_let 4 (by decide +kernel) ?_
  refine T_if1 (by decide +kernel) ?_
  refine T_let 19 z_up_s ?_
  refine T_letg (fun x39 => ?_)
  refine T_letg (fun x40 => ?_)
  refine T_if1 (by decide +kernel) ?_
  refine T_bN ?_
  refine T_of (fX7_put.eq_1 ..) ?_
  refine T_if0 (by decide) ?_
  refine T_if1 (by decide +kernel) ?_
  refine T_let 5 (by decide +kernel) ?_
  refine T_if1 (by decide +kernel) ?_
  refine T_let 300 (by decide +kernel) ?_
  refine T_if0 (by decide) ?_
  refine T_if1 (by decide +kernel) ?_
  refine T_let 5 (by decide +kernel) ?_
  refine T_if1 (by decide +kernel) ?_
  refine T_up ?_
  refine T_of (fX7_put_J20.eq_1 ..) ?_
  refine T_rN ?_
  refine T_if1 (by decide +kernel) ?_
  refine T_let 19 ((z_up_k (by decide)).trans z_up_s) ?_
  refine T_let 20 (by decide +kernel) ?_
  refine T_if1 (by decide +kernel) ?_
  refine T_up ?_
  refine T_let (-8) (by decide +kernel) ?_
  refine T_of (fX11_tapeNumber_L3.eq_2 ..) ?_
  refine T_if1 (by decide) ?_
  refine T_rN ?_
  refine T_if1 (by decide +kernel) ?_
  refine T_let 20 z_up_s ?_
  refine T_rI ?_
  refine T_let 1 (by decide +kernel) ?_
  refine T_if1 (by decide) ?_
  refine T_let p1 q1 ?_
  refine T_let 2 (by decide +kernel) ?_
  refine T_if1 (by decide) ?_
  refine T_let p2 q2 ?_
  refine T_let 3 (by decide +kernel) ?_
  refine T_if1 (by decide) ?_
  refine T_let p3 q3 ?_
  refine T_let 4 (by decide +kernel) ?_
  refine T_if1 (by decide) ?_
  refine T_let p4 q4 ?_
  refine T_let 5 (by decide +kernel) ?_
  refine T_if1 (by decide) ?_
  refine T_let p5 q5 ?_
  refine T_if1 (by decide +kernel) ?_
  refine T_bI ?_
  refine T_of (fX12_feed.eq_1 ..) ?_
  refine T_if1 (by decide +kernel) ?_
  refine T_up0 ((z_up_k (by decide)).trans ((z_up_k (by decide)).trans ((z_up_k (by decide)).trans ((z_up_k (by decide)).trans ((z_up_k (by decide)).trans ((z_up_k (by decide)).trans ((z_up_k (by decide)).trans ((z_up_k (by decide)).trans ((z_up_k (by decide)).trans ((z_up_k (by decide)).trans ((z_up_k (by decide)).trans ((z_up_k (by decide)).trans ((z_up_k (by decide)).trans ((z_up_k (by decide)).trans ((z_up_k (by decide)).trans ((z_up_k (by decide)).trans ((z_up_k (by decide)).trans ((z_up_k (by decide)).trans ((z_up_k (by decide)).trans ((z_up_k (by decide)).trans ((z_up_k (by decide)).trans ((z_up_k (by decide)).trans ((z_up_k (by decide)).trans ((z_up_k (by decide)).trans ((z_up_k (by decide)).trans ((z_up_k (by decide)).trans ((z_up_k (by decide)).trans ((z_up_k (by decide)).trans ((z_up_k (by decide)).trans ((z_up_k (by decide)).trans ((z_up_k (by decide)).trans ((z_up_k (by decide)).trans ((z_up_k (by decide)).trans ((z_up_k (by decide)).trans ((z_up_k (by decide)).trans ((z_up_k (by decide)).trans ((z_up_k (by decide)).trans ((z_up_k (by decide)).trans ((z_up_k (by decide)).trans ((z_up_k (by decide)).trans (by decide +kernel))))))))))))))))))))))))))))))))))))))))) ?_
  refine T_if1 (by decide +kernel) ?_
  refine T_let 0 ((z_up_k (by decide)).trans ((z_up_k (by decide)).trans ((z_up_k (by decide)).trans ((z_up_k (by decide)).trans ((z_up_k (by decide)).trans ((z_up_k (by decide)).trans ((z_up_k (by decide)).trans ((z_up_k (by decide)).trans ((z_up_k (by decide)).trans ((z_up_k (by decide)).trans ((z_up_k (by decide)).trans ((z_up_k (by decide)).trans ((z_up_k (by decide)).trans ((z_up_k (by decide)).trans ((z_up_k (by decide)).trans ((z_up_k (by decide)).trans ((z_up_k (by decide)).trans ((z_up_k (by decide)).trans ((z_up_k (by decide)).trans ((z_up_k (by decide)).trans ((z_up_k (by decide)).trans ((z_up_k (by decide)).trans ((z_up_k (by decide)).trans ((z_up_k (by decide)).trans ((z_up_k (by decide)).trans ((z_up_k (by decide)).trans ((z_up_k (by decide)).trans ((z_up_k (by decide)).trans ((z_up_k (by decide)).trans ((z_up_k (by decide)).trans ((z_up_k (by decide)).trans ((z_up_k (by decide)).trans ((z_up_k (by decide)).trans ((z_up_k (by decide)).trans ((z_up_k (by decide)).trans ((z_up_k (by decide)).trans ((z_up_k (by decide)).trans ((z_up_k (by decide)).trans ((z_up_k (by decide)).trans ((z_up_k (by decide)).trans (by decide +kernel))))))))))))))))))))))))))))))))))))))))) ?_
  refine T_let 20 (by decide +kernel) ?_
  refine T_if1 (by decide) ?_
  refine T_of (fX12_feed_L23.eq_2 ..) ?_
  refine T_if0 (by decide) ?_
  refine T_if0 (by decide) ?_
  refine T_of (fX12_feed_J76.eq_1 ..) ?_
  refine T_if1 (by decide +kernel) ?_
  refine T_let 311 (by decide +kernel) ?_
  refine T_if1 (by decide +kernel) ?_
  refine T_let 0 ((z_up_k (by decide)).trans ((z_up_k (by decide)).trans ((z_up_k (by decide)).trans ((z_up_k (by decide)).trans ((z_up_k (by decide)).trans ((z_up_k (by decide)).trans ((z_up_k (by decide)).trans ((z_up_k (by decide)).trans ((z_up_k (by decide)).trans ((z_up_k (by decide)).trans ((z_up_k (by decide)).trans ((z_up_k (by decide)).trans ((z_up_k (by decide)).trans ((z_up_k (by decide)).trans ((z_up_k (by decide)).trans ((z_up_k (by decide)).trans ((z_up_k (by decide)).trans ((z_up_k (by decide)).trans ((z_up_k (by decide)).trans ((z_up_k (by decide)).trans ((z_up_k (by decide)).trans ((z_up_k (by decide)).trans ((z_up_k (by decide)).trans ((z_up_k (by decide)).trans ((z_up_k (by decide)).trans ((z_up_k (by decide)).trans ((z_up_k (by decide)).trans ((z_up_k (by decide)).trans ((z_up_k (by decide)).trans ((z_up_k (by decide)).trans ((z_up_k (by decide)).trans ((z_up_k (by decide)).trans ((z_up_k (by decide)).trans ((z_up_k (by decide)).trans ((z_up_k (by decide)).trans ((z_up_k (by decide)).trans ((z_up_k (by decide)).trans ((z_up_k (by decide)).trans ((z_up_k (by decide)).trans ((z_up_k (by decide)).trans (by decide +kernel))))))))))))))))))))))))))))))))))))))))) ?_
  refine T_if1 (by decide) ?_
  refine T_let 0 (by decide +kernel) ?_
  refine T_let 0 (by decide +kernel) ?_
  refine T_let 24 (by decide +kernel) ?_
  refine T_letg (fun x41 => ?_)
  refine T_letg (fun x42 => ?_)
  refine T_if1 (by decide +kernel) ?_
  refine T_up ?_
  refine T_if1 (by decide +kernel) ?_
  refine T_let 0 ((z_up_k (by decide)).trans ((z_up_k (by decide)).trans ((z_up_k (by decide)).trans ((z_up_k (by decide)).trans ((z_up_k (by decide)).trans ((z_up_k (by decide)).trans ((z_up_k (by decide)).trans ((z_up_k (by decide)).trans ((z_up_k (by decide)).trans ((z_up_k (by decide)).trans ((z_up_k (by decide)).trans ((z_up_k (by decide)).trans ((z_up_k (by decide)).trans ((z_up_k (by decide)).trans ((z_up_k (by decide)).trans ((z_up_k (by decide)).trans ((z_up_k (by decide)).trans ((z_up_k (by decide)).trans ((z_up_k (by decide)).trans ((z_up_k (by decide)).trans ((z_up_k (by decide)).trans ((z_up_k (by decide)).trans ((z_up_k (by decide)).trans ((z_up_k (by decide)).trans ((z_up_k (by decide)).trans ((z_up_k (by decide)).trans ((z_up_k (by decide)).trans ((z_up_k (by decide)).trans ((z_up_k (by decide)).trans ((z_up_k (by decide)).trans ((z_up_k (by decide)).trans ((z_up_k (by decide)).trans ((z_up_k (by decide)).trans ((z_up_k (by decide)).trans ((z_up_k (by decide)).trans ((z_up_k (by decide)).trans ((z_up_k (by decide)).trans ((z_up_k (by decide)).trans ((z_up_k (by decide)).trans ((z_up_k (by decide)).trans ((z_up_k (by decide)).trans (by decide +kernel)))))))))))))))))))))))))))))))))))))))))) ?_
  refine T_let 1 (by decide +kernel) ?_
  refine T_if1 (by decide +kernel) ?_
  refine T_up ?_
  refine T_let 1 (by decide +kernel) ?_
  refine T_of (fX12_feed_L23.eq_2 ..) ?_
  refine T_if0 (by decide) ?_
  refine T_if0 (by decide) ?_
  refine T_of (fX12_feed_J76.eq_1 ..) ?_
  refine T_if1 (by decide +kernel) ?_
  refine T_let 311 (by decide +kernel) ?_
  refine T_if1 (by decide +kernel) ?_
  refine T_let 1 z_up_s ?_
  refine T_if1 (by decide) ?_
  refine T_let 1 (by decide +kernel) ?_
  refine T_let 8 (by decide +kernel) ?_
  refine T_let 16 (by decide +kernel) ?_
  refine T_letg (fun x43 => ?_)
  refine T_letg (fun x44 => ?_)
  refine T_if1 (by decide +kernel) ?_
  refine T_up ?_
  refine T_if1 (by decide +kernel) ?_
  refine T_let 1 ((z_up_k (by decide)).trans z_up_s) ?_
  refine T_let 2 (by decide +kernel) ?_
  refine T_if1 (by decide +kernel) ?_
  refine T_up ?_
  refine T_let 2 (by decide +kernel) ?_
  refine T_of (fX12_feed_L23.eq_2 ..) ?_
  refine T_if0 (by decide) ?_
  refine T_if0 (by decide) ?_
  refine T_of (fX12_feed_J76.eq_1 ..) ?_
  refine T_if1 (by decide +kernel) ?_
  refine T_let 311 (by decide +kernel) ?_
  refine T_if1 (by decide +kernel) ?_
  refine T_let 2 z_up_s ?_
  refine T_if1 (by decide) ?_
  refine T_let 2 (by decide +kernel) ?_
  refine T_let 16 (by decide +kernel) ?_
  refine T_let 8 (by decide +kernel) ?_
  refine T_letg (fun x45 => ?_)
  refine T_letg (fun x46 => ?_)
  refine T_if1 (by decide +kernel) ?_
  refine T_up ?_
  refine T_if1 (by decide +kernel) ?_
  refine T_let 2 ((z_up_k (by decide)).trans z_up_s) ?_
  refine T_let 3 (by decide +kernel) ?_
  refine T_if1 (by decide +kernel) ?_
  refine T_up ?_
  refine T_let 3 (by decide +kernel) ?_
  refine T_of (fX12_feed_L23.eq_2 ..) ?_
  refine T_if0 (by decide) ?_
  refine T_if0 (by decide) ?_
  refine T_of (fX12_feed_J76.eq_1 ..) ?_
  refine T_if1 (by decide +kernel) ?_
  refine T_let 311 (by decide +kernel) ?_
  refine T_if1 (by decide +kernel) ?_
  refine T_let 3 z_up_s ?_
  refine T_if1 (by decide) ?_
  refine T_let 3 (by decide +kernel) ?_
  refine T_let 24 (by decide +kernel) ?_
  refine T_let 0 (by decide +kernel) ?_
  refine T_letg (fun x47 => ?_)
  refine T_letg (fun x48 => ?_)
  refine T_if1 (by decide +kernel) ?_
  refine T_up ?_
  refine T_if1 (by decide +kernel) ?_
  refine T_let 3 ((z_up_k (by decide)).trans z_up_s) ?_
  refine T_let 4 (by decide +kernel) ?_
  refine T_if1 (by decide +kernel) ?_
  refine T_up ?_
  refine T_let 4 (by decide +kernel) ?_
  refine T_of (fX12_feed_L23.eq_2 ..) ?_
  refine T_if0 (by decide) ?_
  refine T_if1 (by decide) ?_
  refine T_if0 (by decide) ?_
  refine T_of (fX12_feed_J76.eq_1 ..) ?_
  refine T_if1 (by decide +kernel) ?_
  refine T_let 311 (by decide +kernel) ?_
  refine T_if1 (by decide +kernel) ?_
  refine T_let 4 z_up_s ?_
  refine T_if1 (by decide) ?_
  refine T_let 0 (by decide +kernel) ?_
  refine T_let 0 (by decide +kernel) ?_
  refine T_let 24 (by decide +kernel) ?_
  refine T_letg (fun x49 => ?_)
  refine T_letg (fun x50 => ?_)
  refine T_if1 (by decide +kernel) ?_
  refine T_up ?_
  refine T_if1 (by decide +kernel) ?_
  refine T_let 4 ((z_up_k (by decide)).trans z_up_s) ?_
  refine T_let 5 (by decide +kernel) ?_
  refine T_if1 (by decide +kernel) ?_
  refine T_up ?_
  refine T_let 5 (by decide +kernel) ?_
  refine T_of (fX12_feed_L23.eq_2 ..) ?_
  refine T_if0 (by decide) ?_
  refine T_if1 (by decide) ?_
  refine T_if0 (by decide) ?_
  refine T_of (fX12_feed_J76.eq_1 ..) ?_
  refine T_if1 (by decide +kernel) ?_
  refine T_let 311 (by decide +kernel) ?_
  refine T_if1 (by decide +kernel) ?_
  refine T_let 5 z_up_s ?_
  refine T_if1 (by decide) ?_
  refine T_let 1 (by decide +kernel) ?_
  refine T_let 8 (by decide +kernel) ?_
  refine T_let 16 (by decide +kernel) ?_
  refine T_letg (fun x51 => ?_)
  refine T_letg (fun x52 => ?_)
  refine T_if1 (by decide +kernel) ?_
  refine T_up ?_
  refine T_if1 (by decide +kernel) ?_
  refine T_let 5 ((z_up_k (by decide)).trans z_up_s) ?_
  refine T_let 6 (by decide +kernel) ?_
  refine T_if1 (by decide +kernel) ?_
  refine T_up ?_
  refine T_let 6 (by decide +kernel) ?_
  refine T_of (fX12_feed_L23.eq_2 ..) ?_
  refine T_if0 (by decide) ?_
  refine T_if1 (by decide) ?_
  refine T_if0 (by decide) ?_
  refine T_of (fX12_feed_J76.eq_1 ..) ?_
  refine T_if1 (by decide +kernel) ?_
  refine T_let 311 (by decide +kernel) ?_
  refine T_if1 (by decide +kernel) ?_
  refine T_let 6 z_up_s ?_
  refine T_if1 (by decide) ?_
  refine T_let 2 (by decide +kernel) ?_
  refine T_let 16 (by decide +kernel) ?_
  refine T_let 8 (by decide +kernel) ?_
  refine T_letg (fun x53 => ?_)
  refine T_letg (fun x54 => ?_)
  refine T_if1 (by decide +kernel) ?_
  refine T_up ?_
  refine T_if1 (by decide +kernel) ?_
  refine T_let 6 ((z_up_k (by decide)).trans z_up_s) ?_
  refine T_let 7 (by decide +kernel) ?_
  refine T_if1 (by decide +kernel) ?_
  refine T_up ?_
  refine T_let 7 (by decide +kernel) ?_
  refine T_of (fX12_feed_L23.eq_2 ..) ?_
  refine T_if0 (by decide) ?_
  refine T_if1 (by decide) ?_
  refine T_if0 (by decide) ?_
  refine T_of (fX12_feed_J76.eq_1 ..) ?_
  refine T_if1 (by decide +kernel) ?_
  refine T_let 311 (by decide +kernel) ?_
  refine T_if1 (by decide +kernel) ?_
  refine T_let 7 z_up_s ?_
  refine T_if1 (by decide) ?_
  refine T_let 3 (by decide +kernel) ?_
  refine T_let 24 (by decide +kernel) ?_
  refine T_let 0 (by decide +kernel) ?_
  refine T_letg (fun x55 => ?_)
  refine T_letg (fun x56 => ?_)
  refine T_if1 (by decide +kernel) ?_
  refine T_up ?_
  refine T_if1 (by decide +kernel) ?_
  refine T_let 7 ((z_up_k (by decide)).trans z_up_s) ?_
  refine T_let 8 (by decide +kernel) ?_
  refine T_if1 (by decide +kernel) ?_
  refine T_up ?_
  refine T_let 8 (by decide +kernel) ?_
  refine T_of (fX12_feed_L23.eq_2 ..) ?_
  refine T_if0 (by decide) ?_
  refine T_if1 (by decide) ?_
  refine T_if1 (by decide) ?_
  refine T_if0 (by decide) ?_
  refine T_of (fX12_feed_J76.eq_1 ..) ?_
  refine T_if1 (by decide +kernel) ?_
  refine T_let 311 (by decide +kernel) ?_
  refine T_if1 (by decide +kernel) ?_
  refine T_let 8 z_up_s ?_
  refine T_if1 (by decide) ?_
  refine T_let 0 (by decide +kernel) ?_
  refine T_let 0 (by decide +kernel) ?_
  refine T_let 24 (by decide +kernel) ?_
  refine T_letg (fun x57 => ?_)
  refine T_letg (fun x58 => ?_)
  refine T_if1 (by decide +kernel) ?_
  refine T_up ?_
  refine T_if1 (by decide +kernel) ?_
  refine T_let 8 ((z_up_k (by decide)).trans z_up_s) ?_
  refine T_let 9 (by decide +kernel) ?_
  refine T_if1 (by decide +kernel) ?_
  refine T_up ?_
  refine T_let 9 (by decide +kernel) ?_
  refine T_of (fX12_feed_L23.eq_2 ..) ?_
  refine T_if0 (by decide) ?_
  refine T_if1 (by decide) ?_
  refine T_if1 (by decide) ?_
  refine T_if0 (by decide) ?_
  refine T_of (fX12_feed_J76.eq_1 ..) ?_
  refine T_if1 (by decide +kernel) ?_
  refine T_let 311 (by decide +kernel) ?_
  refine T_if1 (by decide +kernel) ?_
  refine T_let 9 z_up_s ?_
  refine T_if1 (by decide) ?_
  refine T_let 1 (by decide +kernel) ?_
  refine T_let 8 (by decide +kernel) ?_
  refine T_let 16 (by decide +kernel) ?_
  refine T_letg (fun x59 => ?_)
  refine T_letg (fun x60 => ?_)
  refine T_if1 (by decide +kernel) ?_
  refine T_up ?_
  refine T_if1 (by decide +kernel) ?_
  refine T_let 9 ((z_up_k (by decide)).trans z_up_s) ?_
  refine T_let 10 (by decide +kernel) ?_
  refine T_if1 (by decide +kernel) ?_
  refine T_up ?_
  refine T_let 10 (by decide +kernel) ?_
  refine T_of (fX12_feed_L23.eq_2 ..) ?_
  refine T_if0 (by decide) ?_
  refine T_if1 (by decide) ?_
  refine T_if1 (by decide) ?_
  refine T_if0 (by decide) ?_
  refine T_of (fX12_feed_J76.eq_1 ..) ?_
  refine T_if1 (by decide +kernel) ?_
  refine T_let 311 (by decide +kernel) ?_
  refine T_if1 (by decide +kernel) ?_
  refine T_let 10 z_up_s ?_
  refine T_if1 (by decide) ?_
  refine T_let 2 (by decide +kernel) ?_
  refine T_let 16 (by decide +kernel) ?_
  refine T_let 8 (by decide +kernel) ?_
  refine T_letg (fun x61 => ?_)
  refine T_letg (fun x62 => ?_)
  refine T_if1 (by decide +kernel) ?_
  refine T_up ?_
  refine T_if1 (by decide +kernel) ?_
  refine T_let 10 ((z_up_k (by decide)).trans z_up_s) ?_
  refine T_let 11 (by decide +kernel) ?_
  refine T_if1 (by decide +kernel) ?_
  refine T_up ?_
  refine T_let 11 (by decide +kernel) ?_
  refine T_of (fX12_feed_L23.eq_2 ..) ?_
  refine T_if0 (by decide) ?_
  refine T_if1 (by decide) ?_
  refine T_if1 (by decide) ?_
  refine T_if0 (by decide) ?_
  refine T_of (fX12_feed_J76.eq_1 ..) ?_
  refine T_if1 (by decide +kernel) ?_
  refine T_let 311 (by decide +kernel) ?_
  refine T_if1 (by decide +kernel) ?_
  refine T_let 11 z_up_s ?_
  refine T_if1 (by decide) ?_
  refine T_let 3 (by decide +kernel) ?_
  refine T_let 24 (by decide +kernel) ?_
  refine T_let 0 (by decide +kernel) ?_
  refine T_letg (fun x63 => ?_)
  refine T_letg (fun x64 => ?_)
  refine T_if1 (by decide +kernel) ?_
  refine T_up ?_
  refine T_if1 (by decide +kernel) ?_
  refine T_let 11 ((z_up_k (by decide)).trans z_up_s) ?_
  refine T_let 12 (by decide +kernel) ?_
  refine T_if1 (by decide +kernel) ?_
  refine T_up ?_
  refine T_let 12 (by decide +kernel) ?_
  refine T_of (fX12_feed_L23.eq_2 ..) ?_
  refine T_if0 (by decide) ?_
  refine T_if1 (by decide) ?_
  refine T_if1 (by decide) ?_
  refine T_if1 (by decide) ?_
  refine T_if0 (by decide) ?_
  refine T_of (fX12_feed_J76.eq_1 ..) ?_
  refine T_if1 (by decide +kernel) ?_
  refine T_let 311 (by decide +kernel) ?_
  refine T_if1 (by decide +kernel) ?_
  refine T_let 12 z_up_s ?_
  refine T_if1 (by decide) ?_
  refine T_let 0 (by decide +kernel) ?_
  refine T_let 0 (by decide +kernel) ?_
  refine T_let 24 (by decide +kernel) ?_
  refine T_letg (fun x65 => ?_)
  refine T_letg (fun x66 => ?_)
  refine T_if1 (by decide +kernel) ?_
  refine T_up ?_
  refine T_if1 (by decide +kernel) ?_
  refine T_let 12 ((z_up_k (by decide)).trans z_up_s) ?_
  refine T_let 13 (by decide +kernel) ?_
  refine T_if1 (by decide +kernel) ?_
  refine T_up ?_
  refine T_let 13 (by decide +kernel) ?_
  refine T_of (fX12_feed_L23.eq_2 ..) ?_
  refine T_if0 (by decide) ?_
  refine T_if1 (by decide) ?_
  refine T_if1 (by decide) ?_
  refine T_if1 (by decide) ?_
  refine T_if0 (by decide) ?_
  refine T_of (fX12_feed_J76.eq_1 ..) ?_
  refine T_if1 (by decide +kernel) ?_
  refine T_let 311 (by decide +kernel) ?_
  refine T_if1 (by decide +kernel) ?_
  refine T_let 13 z_up_s ?_
  refine T_if1 (by decide) ?_
  refine T_let 1 (by decide +kernel) ?_
  refine T_let 8 (by decide +kernel) ?_
  refine T_let 16 (by decide +kernel) ?_
  refine T_letg (fun x67 => ?_)
  refine T_letg (fun x68 => ?_)
  refine T_if1 (by decide +kernel) ?_
  refine T_up ?_
  refine T_if1 (by decide +kernel) ?_
  refine T_let 13 ((z_up_k (by decide)).trans z_up_s) ?_
  refine T_let 14 (by decide +kernel) ?_
  refine T_if1 (by decide +kernel) ?_
  refine T_up ?_
  refine T_let 14 (by decide +kernel) ?_
  refine T_of (fX12_feed_L23.eq_2 ..) ?_
  refine T_if0 (by decide) ?_
  refine T_if1 (by decide) ?_
  refine T_if1 (by decide) ?_
  refine T_if1 (by decide) ?_
  refine T_if0 (by decide) ?_
  refine T_of (fX12_feed_J76.eq_1 ..) ?_
  refine T_if1 (by decide +kernel) ?_
  refine T_let 311 (by decide +kernel) ?_
  refine T_if1 (by decide +kernel) ?_
  refine T_let 14 z_up_s ?_
  refine T_if1 (by decide) ?_
  refine T_let 2 (by decide +kernel) ?_
  refine T_let 16 (by decide +kernel) ?_
  refine T_let 8 (by decide +kernel) ?_
  refine T_letg (fun x69 => ?_)
  refine T_letg (fun x70 => ?_)
  refine T_if1 (by decide +kernel) ?_
  refine T_up ?_
  refine T_if1 (by decide +kernel) ?_
  refine T_let 14 ((z_up_k (by decide)).trans z_up_s) ?_
  refine T_let 15 (by decide +kernel) ?_
  refine T_if1 (by decide +kernel) ?_
  refine T_up ?_
  refine T_let 15 (by decide +kernel) ?_
  refine T_of (fX12_feed_L23.eq_2 ..) ?_
  refine T_if0 (by decide) ?_
  refine T_if1 (by decide) ?_
  refine T_if1 (by decide) ?_
  refine T_if1 (by decide) ?_
  refine T_if0 (by decide) ?_
  refine T_of (fX12_feed_J76.eq_1 ..) ?_
  refine T_if1 (by decide +kernel) ?_
  refine T_let 311 (by decide +kernel) ?_
  refine T_if1 (by decide +kernel) ?_
  refine T_let 15 z_up_s ?_
  refine T_if1 (by decide) ?_
  refine T_let 3 (by decide +kernel) ?_
  refine T_let 24 (by decide +kernel) ?_
  refine T_let 0 (by decide +kernel) ?_
  refine T_letg (fun x71 => ?_)
  refine T_letg (fun x72 => ?_)
  refine T_if1 (by decide +kernel) ?_
  refine T_up ?_
  refine T_if1 (by decide +kernel) ?_
  refine T_let 15 ((z_up_k (by decide)).trans z_up_s) ?_
  refine T_let 16 (by decide +kernel) ?_
  refine T_if1 (by decide +kernel) ?_
  refine T_up ?_
  refine T_let 16 (by decide +kernel) ?_
  refine T_of (fX12_feed_L23.eq_2 ..) ?_
  refine T_if0 (by decide) ?_
  refine T_if1 (by decide) ?_
  refine T_if1 (by decide) ?_
  refine T_if1 (by decide) ?_
  refine T_if1 (by decide) ?_
  refine T_of (fX12_feed_J76.eq_1 ..) ?_
  refine T_if1 (by decide +kernel) ?_
  refine T_let 311 (by decide +kernel) ?_
  refine T_if1 (by decide +kernel) ?_
  refine T_let 16 z_up_s ?_
  refine T_if1 (by decide) ?_
  refine T_let 0 (by decide +kernel) ?_
  refine T_let 0 (by decide +kernel) ?_
  refine T_let 24 (by decide +kernel) ?_
  refine T_letg (fun x73 => ?_)
  refine T_letg (fun x74 => ?_)
  refine T_if1 (by decide +kernel) ?_
  refine T_up ?_
  refine T_if1 (by decide +kernel) ?_
  refine T_let 16 ((z_up_k (by decide)).trans z_up_s) ?_
  refine T_let 17 (by decide +kernel) ?_
  refine T_if1 (by decide +kernel) ?_
  refine T_up ?_
  refine T_let 17 (by decide +kernel) ?_
  refine T_of (fX12_feed_L23.eq_2 ..) ?_
  refine T_if0 (by decide) ?_
  refine T_if1 (by decide) ?_
  refine T_if1 (by decide) ?_
  refine T_if1 (by decide) ?_
  refine T_if1 (by decide) ?_
  refine T_of (fX12_feed_J76.eq_1 ..) ?_
  refine T_if1 (by decide +kernel) ?_
  refine T_let 311 (by decide +kernel) ?_
  refine T_if1 (by decide +kernel) ?_
  refine T_let 17 z_up_s ?_
  refine T_if1 (by decide) ?_
  refine T_let 1 (by decide +kernel) ?_
  refine T_let 8 (by decide +kernel) ?_
  refine T_let 16 (by decide +kernel) ?_
  refine T_letg (fun x75 => ?_)
  refine T_letg (fun x76 => ?_)
  refine T_if1 (by decide +kernel) ?_
  refine T_up ?_
  refine T_if1 (by decide +kernel) ?_
  refine T_let 17 ((z_up_k (by decide)).trans z_up_s) ?_
  refine T_let 18 (by decide +kernel) ?_
  refine T_if1 (by decide +kernel) ?_
  refine T_up ?_
  refine T_let 18 (by decide +kernel) ?_
  refine T_of (fX12_feed_L23.eq_2 ..) ?_
  refine T_if0 (by decide) ?_
  refine T_if1 (by decide) ?_
  refine T_if1 (by decide) ?_
  refine T_if1 (by decide) ?_
  refine T_if1 (by decide) ?_
  refine T_of (fX12_feed_J76.eq_1 ..) ?_
  refine T_if1 (by decide +kernel) ?_
  refine T_let 311 (by decide +kernel) ?_
  refine T_if1 (by decide +kernel) ?_
  refine T_let 18 z_up_s ?_
  refine T_if1 (by decide) ?_
  refine T_let 2 (by decide +kernel) ?_
  refine T_let 16 (by decide +kernel) ?_
  refine T_let 8 (by decide +kernel) ?_
  refine T_letg (fun x77 => ?_)
  refine T_letg (fun x78 => ?_)
  refine T_if1 (by decide +kernel) ?_
  refine T_up ?_
  refine T_if1 (by decide +kernel) ?_
  refine T_let 18 ((z_up_k (by decide)).trans z_up_s) ?_
  refine T_let 19 (by decide +kernel) ?_
  refine T_if1 (by decide +kernel) ?_
  refine T_up ?_
  refine T_let 19 (by decide +kernel) ?_
  refine T_of (fX12_feed_L23.eq_2 ..) ?_
  refine T_if0 (by decide) ?_
  refine T_if1 (by decide) ?_
  refine T_if1 (by decide) ?_
  refine T_if1 (by decide) ?_
  refine T_if1 (by decide) ?_
  refine T_of (fX12_feed_J76.eq_1 ..) ?_
  refine T_if1 (by decide +kernel) ?_
  refine T_let 311 (by decide +kernel) ?_
  refine T_if1 (by decide +kernel) ?_
  refine T_let 19 z_up_s ?_
  refine T_if1 (by decide) ?_
  refine T_let 3 (by decide +kernel) ?_
  refine T_let 24 (by decide +kernel) ?_
  refine T_let 0 (by decide +kernel) ?_
  refine T_letg (fun x79 => ?_)
  refine T_letg (fun x80 => ?_)
  refine T_if1 (by decide +kernel) ?_
  refine T_up ?_
  refine T_if1 (by decide +kernel) ?_
  refine T_let 19 ((z_up_k (by decide)).trans z_up_s) ?_
  refine T_let 20 (by decide +kernel) ?_
  refine T_if1 (by decide +kernel) ?_
  refine T_up ?_
  refine T_let 20 (by decide +kernel) ?_
  refine T_of (fX12_feed_L23.eq_2 ..) ?_
  refine T_if1 (by decide) ?_
  refine T_if1 (by decide +kernel) ?_
  refine T_let 20 z_up_s ?_
  refine T_rI ?_
  refine T_if1 (by decide) ?_
  refine T_of (fL_law_J2073.eq_1 ..) ?_
  refine T_let 6 (by decide +kernel) ?_
  exact hr _
theorem c_261 {xs : Nat → Int32} {r : z_M → Int → z_O} {k : z_M → z_O} {P : z_V → z_M → Prop} {p1 p2 p3 p4 p5 : Int} (q1 : Int32.toInt (xs 1) = p1) (q2 : Int32.toInt (xs 2) = p2) (q3 : Int32.toInt (xs 3) = p3) (q4 : Int32.toInt (xs 4) = p4) (q5 : Int32.toInt (xs 5) = p5) (hr : ∀ s, z_T (r s 6) P) : z_T (fL_law_J261 1000 6 xs z_s0 1 309 7658 0 r k) P := by
  refine T_of (fL_law_J261.eq_1 ..) ?_
  refine T_let 1 (by decide +kernel) ?_
  refine T_if1 (by decide) ?_
  refine T_let p1 q1 ?_
  refine T_bI ?_
  refine T_of (fL_text.eq_1 ..) ?_
  refine T_if1 (by decide +kernel) ?_
  refine T_cI ?_
  refine T_of (fX11_text.eq_1 ..) ?_
  refine T_if1 (by decide +kernel) ?_
  refine T_let 0 (by decide +kernel) ?_
  refine T_if1 (by decide +kernel) ?_
  refine T_bN ?_
  refine T_of (fX11_needWithin.eq_1 ..) ?_
  refine T_ite (fun h1 => ?_) (fun h1 => ?_)
  · refine T_of (fX11_needWithin_J10.eq_1 ..) ?_
    refine T_if1 (by decide +kernel) ?_
    refine T_let 0 (by decide +kernel) ?_
    refine T_let 1 (by decide +kernel) ?_
    refine T_if1 (by decide +kernel) ?_
    refine T_up ?_
    refine T_xN ?_
    refine T_x1I ?_
    refine T_rI ?_
    refine T_let 1 (by decide +kernel) ?_
    refine T_if1 (by decide) ?_
    refine T_let p1 q1 ?_
    refine T_if1 (by decide +kernel) ?_
    refine T_bI ?_
    refine T_of (fX12_text.eq_1 ..) ?_
    refine T_if1 (by decide +kernel) ?_
    refine T_up0 ((z_up_k (by decide)).trans (by decide +kernel)) ?_
    refine T_if1 (by decide +kernel) ?_
    refine T_let 0 ((z_up_k (by decide)).trans (by decide +kernel)) ?_
    refine T_bI ?_
    refine T_of (fX12_in.eq_1 ..) ?_
    refine T_if1 (by omega) ?_
    refine T_of (fX12_in_J14.eq_1 ..) ?_
    refine T_of (fX12_in_J15.eq_1 ..) ?_
    refine T_if1 (by decide) ?_
    refine T_rI ?_
    refine T_if0 (by decide) ?_
    refine T_of (fX12_text_J23.eq_1 ..) ?_
    refine T_if1 (by decide +kernel) ?_
    refine T_bI ?_
    refine T_of (fX12_bad.eq_1 ..) ?_
    refine T_if0 (by decide) ?_
    refine T_if1 (by decide +kernel) ?_
    refine T_let 0 ((z_up_k (by decide)).trans (by decide +kernel)) ?_
    refine T_if0 (by decide) ?_
    refine T_if1 (by decide +kernel) ?_
    refine T_up ?_
    refine T_if1 (by decide +kernel) ?_
    refine T_let 310 (by decide +kernel) ?_
    refine T_if1 (by decide +kernel) ?_
    refine T_let 0 ((z_up_k (by decide)).trans ((z_up_k (by decide)).trans (by decide +kernel))) ?_
    refine T_let 1 (by decide +kernel) ?_
    refine T_if1 (by decide +kernel) ?_
    refine T_up ?_
    refine T_of (fX12_bad_J26.eq_1 ..) ?_
    refine T_if1 (by decide +kernel) ?_
    refine T_let 1 ((z_up_k (by decide)).trans z_up_s) ?_
    refine T_if0 (by decide) ?_
    refine T_of (fX12_bad_J38.eq_1 ..) ?_
    refine T_if1 (by decide) ?_
    refine T_rI ?_
    refine T_if0 (by decide) ?_
    refine T_rI ?_
    refine T_if1 (by decide +kernel) ?_
    refine T_bI ?_
    refine T_of (fX12_thrown.eq_1 ..) ?_
    refine T_if1 (by decide +kernel) ?_
    refine T_let 1 ((z_up_k (by decide)).trans z_up_s) ?_
    refine T_rI ?_
    refine T_if1 (by decide) ?_
    refine T_if1 (by decide) ?_
    refine T_of (fL_law_J314.eq_1 ..) ?_
    refine T_of (fL_law_J2073.eq_1 ..) ?_
    refine T_let 6 (by decide +kernel) ?_
    exact hr _
  · refine T_ite (fun h2 => ?_) (fun h2 => ?_)
    · refine T_rN ?_
      refine T_if1 (by decide +kernel) ?_
      refine T_let 19 (by decide +kernel) ?_
      refine T_if1 (by decide +kernel) ?_
      refine T_bN ?_
      refine T_of (fX9_clear.eq_1 ..) ?_
      refine T_if1 (by decide +kernel) ?_
      refine T_up0 (by decide +kernel) ?_
      refine T_if1 (by decide +kernel) ?_
      refine T_up0 (by decide +kernel) ?_
      refine T_if1 (by decide +kernel) ?_
      refine T_up0 (by decide +kernel) ?_
      refine T_rN ?_
      refine T_if1 (by decide +kernel) ?_
      refine T_bI ?_
      refine T_of (fX11_readTape.eq_1 ..) ?_
      refine T_if1 (by decide +kernel) ?_
      refine T_let 32 (by decide +kernel) ?_
      refine T_if1 (by decide +kernel) ?_
      refine T_let 4 (by decide +kernel) ?_
      refine T_if1 (by decide +kernel) ?_
      refine T_bI ?_
      refine T_of (fX6_read.eq_1 ..) ?_
      refine T_if1 (by decide +kernel) ?_
      refine T_up0 (by decide +kernel) ?_
      refine T_if1 (by decide +kernel) ?_
      refine T_up0 (by decide +kernel) ?_
      refine T_of (fX6_read_L10.eq_2 ..) ?_
      refine T_if1 (by decide +kernel) ?_
      refine T_let 0 (by decide +kernel) ?_
      refine T_if1 (by omega) ?_
      refine T_if1 (by decide +kernel) ?_
      refine T_let 0 (by decide +kernel) ?_
      refine T_if0 (by decide) ?_
      refine T_of (fX6_read_J62.eq_1 ..) ?_
      refine T_rI ?_
      refine T_if0 (by decide) ?_
      refine T_of (fX11_readTape_J29.eq_1 ..) ?_
      refine T_if1 (by decide +kernel) ?_
      refine T_up0 (by decide +kernel) ?_
      refine T_if1 (by decide +kernel) ?_
      refine T_up0 (by decide +kernel) ?_
      refine T_if0 (by decide) ?_
      refine T_if1 (by decide +kernel) ?_
      refine T_let 33 (by decide +kernel) ?_
      refine T_if1 (by decide +kernel) ?_
      refine T_let 6 (by decide +kernel) ?_
      refine T_if1 (by decide +kernel) ?_
      refine T_bN ?_
      refine T_of (fX2_keep.eq_1 ..) ?_
      refine T_if1 (by decide +kernel) ?_
      refine T_bR ?_
      refine T_of (fX2_place.eq_1 ..) ?_
      refine T_if1 (by decide +kernel) ?_
      refine T_let 0 (by decide +kernel) ?_
      refine T_if0 (by decide) ?_
      refine T_if1 (by decide +kernel) ?_
      refine T_let 0 (by decide +kernel) ?_
      refine T_if1 (by decide +kernel) ?_
      refine T_let 34 (by decide +kernel) ?_
      refine T_if1 (by decide +kernel) ?_
      refine T_let 12 (by decide +kernel) ?_
      refine T_if0 (by decide) ?_
      refine T_if1 (by decide +kernel) ?_
      refine T_let 34 (by decide +kernel) ?_
      refine T_if1 (by decide +kernel) ?_
      refine T_let 0 (by decide +kernel) ?_
      refine T_if1 (by decide +kernel) ?_
      refine T_let 35 (by decide +kernel) ?_
      refine T_of (fX2_place_J32.eq_1 ..) ?_
      refine T_rR ?_
      refine T_if1 (by decide) ?_
      refine T_if1 (by decide +kernel) ?_
      refine T_bN ?_
      refine T_of (fX9_copyFrom.eq_1 ..) ?_
      refine T_if1 (by decide +kernel) ?_
      refine T_let 0 (by decide +kernel) ?_
      refine T_if1 (by decide +kernel) ?_
      refine T_up0 (by decide +kernel) ?_
      refine T_if1 (by decide +kernel) ?_
      refine T_let 0 (by decide +kernel) ?_
      refine T_if1 (by decide +kernel) ?_
      refine T_up0 (by decide +kernel) ?_
      refine T_if1 (by decide +kernel) ?_
      refine T_let 0 (by decide +kernel) ?_
      refine T_if1 (by decide +kernel) ?_
      refine T_up0 (by decide +kernel) ?_
      refine T_if1 (by decide +kernel) ?_
      refine T_let 36 (by decide +kernel) ?_
      refine T_if1 (by decide +kernel) ?_
      refine T_let 7 (by decide +kernel) ?_
      refine T_if1 (by decide +kernel) ?_
      refine T_let 0 (by decide +kernel) ?_
      refine T_if1 (by decide +kernel) ?_
      refine T_bN ?_
      refine T_of (fX7_copyFrom.eq_1 ..) ?_
      refine T_of (fX7_copyFrom_L2.eq_2 ..) ?_
      refine T_if1 (by decide) ?_
      refine T_rN ?_
      refine T_if1 (by decide +kernel) ?_
      refine T_let 38 (by decide +kernel) ?_
      refine T_if1 (by decide +kernel) ?_
      refine T_let 9 (by decide +kernel) ?_
      refine T_if1 (by decide +kernel) ?_
      refine T_let 0 (by decide +kernel) ?_
      refine T_if1 (by decide +kernel) ?_
      refine T_bN ?_
      refine T_of (fX7_copyFrom.eq_1 ..) ?_
      refine T_of (fX7_copyFrom_L2.eq_2 ..) ?_
      refine T_if1 (by decide) ?_
      refine T_rN ?_
      refine T_if1 (by decide +kernel) ?_
      refine T_let 40 (by decide +kernel) ?_
      refine T_if1 (by decide +kernel) ?_
      refine T_let 11 (by decide +kernel) ?_
      refine T_if1 (by decide +kernel) ?_
      refine T_let 0 (by decide +kernel) ?_
      refine T_if1 (by decide +kernel) ?_
      refine T_bN ?_
      refine T_of (fX7_copyFrom.eq_1 ..) ?_
      refine T_of (fX7_copyFrom_L2.eq_2 ..) ?_
      refine T_if1 (by decide) ?_
      refine T_rN ?_
      refine T_if1 (by decide +kernel) ?_
      refine T_let 42 (by decide +kernel) ?_
      refine T_if1 (by decide +kernel) ?_
      refine T_let 13 (by decide +kernel) ?_
      refine T_if1 (by decide +kernel) ?_
      refine T_let 0 (by decide +kernel) ?_
      refine T_if1 (by decide +kernel) ?_
      refine T_bN ?_
      refine T_of (fX7_copyFrom.eq_1 ..) ?_
      refine T_of (fX7_copyFrom_L2.eq_2 ..) ?_
      refine T_if1 (by decide) ?_
      refine T_rN ?_
      refine T_if1 (by decide +kernel) ?_
      refine T_let 44 (by decide +kernel) ?_
      refine T_if1 (by decide +kernel) ?_
      refine T_let 15 (by decide +kernel) ?_
      refine T_if1 (by decide +kernel) ?_
      refine T_let 0 (by decide +kernel) ?_
      refine T_if1 (by decide +kernel) ?_
      refine T_bN ?_
      refine T_of (fX4_copyFrom.eq_1 ..) ?_
      refine T_of (fX4_copyFrom_L2.eq_2 ..) ?_
      refine T_if1 (by decide) ?_
      refine T_rN ?_
      refine T_if1 (by decide +kernel) ?_
      refine T_let 46 (by decide +kernel) ?_
      refine T_if1 (by decide +kernel) ?_
      refine T_let 17 (by decide +kernel) ?_
      refine T_if1 (by decide +kernel) ?_
      refine T_let 0 (by decide +kernel) ?_
      refine T_if1 (by decide +kernel) ?_
      refine T_bN ?_
      refine T_of (fX4_copyFrom.eq_1 ..) ?_
      refine T_of (fX4_copyFrom_L2.eq_2 ..) ?_
      refine T_if1 (by decide) ?_
      refine T_rN ?_
      refine T_rN ?_
      refine T_if1 (by decide +kernel) ?_
      refine T_let 0 (by decide +kernel) ?_
      refine T_let 1 (by decide +kernel) ?_
      refine T_if0 (by decide) ?_
      refine T_if1 (by decide +kernel) ?_
      refine T_let 0 (by decide +kernel) ?_
      refine T_let 1 (by decide +kernel) ?_
      refine T_of (fX2_keep_J36.eq_1 ..) ?_
      refine T_if1 (by decide +kernel) ?_
      refine T_up ?_
      refine T_if1 (by decide +kernel) ?_
      refine T_let 0 ((z_up_j (by decide)).trans (by decide +kernel)) ?_
      refine T_let 1 (by decide +kernel) ?_
      refine T_let 1 (by decide +kernel) ?_
      refine T_if1 (by decide +kernel) ?_
      refine T_up ?_
      refine T_rN ?_
      refine T_if1 (by decide +kernel) ?_
      refine T_let 6 (by decide +kernel) ?_
      refine T_if1 (by decide +kernel) ?_
      refine T_let 19 (by decide +kernel) ?_
      refine T_if1 (by decide +kernel) ?_
      refine T_bN ?_
      refine T_of (fX9_copyFrom.eq_1 ..) ?_
      refine T_if1 (by decide +kernel) ?_
      refine T_let 0 ((z_up_k (by decide)).trans ((z_up_k (by decide)).trans (by decide +kernel))) ?_
      refine T_if1 (by decide +kernel) ?_
      refine T_up0 ((z_up_k (by decide)).trans ((z_up_k (by decide)).trans (by decide +kernel))) ?_
      refine T_if1 (by decide +kernel) ?_
      refine T_let 0 ((z_up_k (by decide)).trans ((z_up_k (by decide)).trans (by decide +kernel))) ?_
      refine T_if1 (by decide +kernel) ?_
      refine T_up0 ((z_up_k (by decide)).trans ((z_up_k (by decide)).trans (by decide +kernel))) ?_
      refine T_if1 (by decide +kernel) ?_
      refine T_let 0 ((z_up_k (by decide)).trans ((z_up_k (by decide)).trans (by decide +kernel))) ?_
      refine T_if1 (by decide +kernel) ?_
      refine T_up0 ((z_up_k (by decide)).trans ((z_up_k (by decide)).trans (by decide +kernel))) ?_
      refine T_if1 (by decide +kernel) ?_
      refine T_let 7 (by decide +kernel) ?_
      refine T_if1 (by decide +kernel) ?_
      refine T_let 20 (by decide +kernel) ?_
      refine T_if1 (by decide +kernel) ?_
      refine T_let 0 ((z_up_k (by decide)).trans ((z_up_k (by decide)).trans (by decide +kernel))) ?_
      refine T_if1 (by decide +kernel) ?_
      refine T_bN ?_
      refine T_of (fX7_copyFrom.eq_1 ..) ?_
      refine T_of (fX7_copyFrom_L2.eq_2 ..) ?_
      refine T_if1 (by decide) ?_
      refine T_rN ?_
      refine T_if1 (by decide +kernel) ?_
      refine T_let 9 (by decide +kernel) ?_
      refine T_if1 (by decide +kernel) ?_
      refine T_let 22 (by decide +kernel) ?_
      refine T_if1 (by decide +kernel) ?_
      refine T_let 0 ((z_up_k (by decide)).trans ((z_up_k (by decide)).trans (by decide +kernel))) ?_
      refine T_if1 (by decide +kernel) ?_
      refine T_bN ?_
      refine T_of (fX7_copyFrom.eq_1 ..) ?_
      refine T_of (fX7_copyFrom_L2.eq_2 ..) ?_
      refine T_if1 (by decide) ?_
      refine T_rN ?_
      refine T_if1 (by decide +kernel) ?_
      refine T_let 11 (by decide +kernel) ?_
      refine T_if1 (by decide +kernel) ?_
      refine T_let 24 (by decide +kernel) ?_
      refine T_if1 (by decide +kernel) ?_
      refine T_let 0 ((z_up_k (by decide)).trans ((z_up_k (by decide)).trans (by decide +kernel))) ?_
      refine T_if1 (by decide +kernel) ?_
      refine T_bN ?_
      refine T_of (fX7_copyFrom.eq_1 ..) ?_
      refine T_of (fX7_copyFrom_L2.eq_2 ..) ?_
      refine T_if1 (by decide) ?_
      refine T_rN ?_
      refine T_if1 (by decide +kernel) ?_
      refine T_let 13 (by decide +kernel) ?_
      refine T_if1 (by decide +kernel) ?_
      refine T_let 26 (by decide +kernel) ?_
      refine T_if1 (by decide +kernel) ?_
      refine T_let 0 ((z_up_k (by decide)).trans ((z_up_k (by decide)).trans (by decide +kernel))) ?_
      refine T_if1 (by decide +kernel) ?_
      refine T_bN ?_
      refine T_of (fX7_copyFrom.eq_1 ..) ?_
      refine T_of (fX7_copyFrom_L2.eq_2 ..) ?_
      refine T_if1 (by decide) ?_
      refine T_rN ?_
      refine T_if1 (by decide +kernel) ?_
      refine T_let 15 (by decide +kernel) ?_
      refine T_if1 (by decide +kernel) ?_
      refine T_let 28 (by decide +kernel) ?_
      refine T_if1 (by decide +kernel) ?_
      refine T_let 0 ((z_up_k (by decide)).trans ((z_up_k (by decide)).trans (by decide +kernel))) ?_
      refine T_if1 (by decide +kernel) ?_
      refine T_bN ?_
      refine T_of (fX4_copyFrom.eq_1 ..) ?_
      refine T_of (fX4_copyFrom_L2.eq_2 ..) ?_
      refine T_if1 (by decide) ?_
      refine T_rN ?_
      refine T_if1 (by decide +kernel) ?_
      refine T_let 17 (by decide +kernel) ?_
      refine T_if1 (by decide +kernel) ?_
      refine T_let 30 (by decide +kernel) ?_
      refine T_if1 (by decide +kernel) ?_
      refine T_let 0 ((z_up_k (by decide)).trans ((z_up_k (by decide)).trans (by decide +kernel))) ?_
      refine T_if1 (by decide +kernel) ?_
      refine T_bN ?_
      refine T_of (fX4_copyFrom.eq_1 ..) ?_
      refine T_of (fX4_copyFrom_L2.eq_2 ..) ?_
      refine T_if1 (by decide) ?_
      refine T_rN ?_
      refine T_rN ?_
      refine T_if1 (by decide +kernel) ?_
      refine T_up0 ((z_up_k (by decide)).trans ((z_up_k (by decide)).trans (by decide +kernel))) ?_
      refine T_of (fX11_readTape_J68.eq_1 ..) ?_
      refine T_rI ?_
      refine T_if1 (by decide +kernel) ?_
      refine T_bN ?_
      refine T_of (fX11_refresh.eq_1 ..) ?_
      refine T_if1 (by decide +kernel) ?_
      refine T_let 0 ((z_up_k (by decide)).trans ((z_up_k (by decide)).trans (by decide +kernel))) ?_
      refine T_if0 (by decide) ?_
      refine T_if1 (by decide +kernel) ?_
      refine T_let 191 (by decide +kernel) ?_
      refine T_if1 (by decide +kernel) ?_
      refine T_bN ?_
      refine T_of (fX10_build.eq_1 ..) ?_
      refine T_if1 (by decide +kernel) ?_
      refine T_bN ?_
      refine T_of (fX10_split.eq_1 ..) ?_
      refine T_if1 (by decide +kernel) ?_
      refine T_up0 ((z_up_k (by decide)).trans ((z_up_k (by decide)).trans (by decide +kernel))) ?_
      refine T_of (fX10_split_L7.eq_2 ..) ?_
      refine T_if1 (by decide +kernel) ?_
      refine T_let 6 (by decide +kernel) ?_
      refine T_if1 (by decide +kernel) ?_
      refine T_let 0 ((z_up_k (by decide)).trans ((z_up_k (by decide)).trans (by decide +kernel))) ?_
      refine T_if1 (by decide) ?_
      refine T_rN ?_
      refine T_of (fX10_build_L6.eq_2 ..) ?_
      refine T_if1 (by decide +kernel) ?_
      refine T_let 0 ((z_up_k (by decide)).trans ((z_up_k (by decide)).trans (by decide +kernel))) ?_
      refine T_if1 (by decide) ?_
      refine T_if1 (by decide +kernel) ?_
      refine T_bN ?_
      refine T_of (fX10_addUp.eq_1 ..) ?_
      refine T_of (fX10_addUp_L2.eq_2 ..) ?_
      refine T_if1 (by decide +kernel) ?_
      refine T_let 0 ((z_up_k (by decide)).trans ((z_up_k (by decide)).trans (by decide +kernel))) ?_
      refine T_if1 (by decide) ?_
      refine T_rN ?_
      refine T_if1 (by decide +kernel) ?_
      refine T_bN ?_
      refine T_of (fX10_pairUp.eq_1 ..) ?_
      refine T_if1 (by decide +kernel) ?_
      refine T_up0 ((z_up_k (by decide)).trans ((z_up_k (by decide)).trans (by decide +kernel))) ?_
      refine T_of (fX10_pairUp_L7.eq_2 ..) ?_
      refine T_if1 (by decide +kernel) ?_
      refine T_let 0 ((z_up_k (by decide)).trans ((z_up_k (by decide)).trans (by decide +kernel))) ?_
      refine T_if1 (by decide) ?_
      refine T_rN ?_
      refine T_of (fX10_build_L35.eq_2 ..) ?_
      refine T_if1 (by decide +kernel) ?_
      refine T_let 0 ((z_up_k (by decide)).trans ((z_up_k (by decide)).trans (by decide +kernel))) ?_
      refine T_if1 (by decide) ?_
      refine T_if1 (by decide +kernel) ?_
      refine T_bN ?_
      refine T_of (fX10_tie.eq_1 ..) ?_
      refine T_if1 (by decide +kernel) ?_
      refine T_up0 ((z_up_k (by decide)).trans ((z_up_k (by decide)).trans (by decide +kernel))) ?_
      refine T_of (fX10_tie_L7.eq_2 ..) ?_
      refine T_if1 (by decide +kernel) ?_
      refine T_let 0 ((z_up_k (by decide)).trans ((z_up_k (by decide)).trans (by decide +kernel))) ?_
      refine T_if1 (by decide) ?_
      refine T_rN ?_
      refine T_rN ?_
      refine T_if1 (by decide +kernel) ?_
      refine T_let 220 (by decide +kernel) ?_
      refine T_if1 (by decide +kernel) ?_
      refine T_bN ?_
      refine T_of (fX5_forget.eq_1 ..) ?_
      refine T_if1 (by decide +kernel) ?_
      refine T_let 221 (by decide +kernel) ?_
      refine T_if1 (by decide +kernel) ?_
      refine T_let 191 (by decide +kernel) ?_
      refine T_if1 (by decide +kernel) ?_
      refine T_let 0 ((z_up_k (by decide)).trans ((z_up_k (by decide)).trans (by decide +kernel))) ?_
      refine T_bI ?_
      refine T_of (fX5_slotOf.eq_1 ..) ?_
      refine T_let 1 (by decide +kernel) ?_
      refine T_let 0 (by decide +kernel) ?_
      refine T_if1 (by decide) ?_
      refine T_let 0 (by decide +kernel) ?_
      refine T_let 0 (by decide +kernel) ?_
      refine T_rI ?_
      refine T_if1 (by decide +kernel) ?_
      refine T_bN ?_
      refine T_of (fX7_clear.eq_1 ..) ?_
      refine T_of (fX7_clear_L2.eq_2 ..) ?_
      refine T_if1 (by decide) ?_
      refine T_rN ?_
      refine T_rN ?_
      refine T_if1 (by decide +kernel) ?_
      refine T_up ?_
      refine T_if1 (by decide +kernel) ?_
      refine T_up0 ((z_up_j (by decide)).trans ((z_up_k (by decide)).trans ((z_up_k (by decide)).trans (by decide +kernel)))) ?_
      refine T_of (fX11_refresh_J31.eq_1 ..) ?_
      refine T_if1 (by decide +kernel) ?_
      refine T_let 0 ((z_up_j (by decide)).trans ((z_up_k (by decide)).trans ((z_up_k (by decide)).trans (by decide +kernel)))) ?_
      refine T_if0 (by decide) ?_
      refine T_if1 (by decide +kernel) ?_
      refine T_let 240 (by decide +kernel) ?_
      refine T_if1 (by decide +kernel) ?_
      refine T_let 2 (by decide +kernel) ?_
      refine T_if1 (by decide +kernel) ?_
      refine T_bI ?_
      refine T_of (fX7_get.eq_1 ..) ?_
      refine T_if0 (by decide) ?_
      refine T_if1 (by decide +kernel) ?_
      refine T_let 3 (by decide +kernel) ?_
      refine T_if1 (by decide +kernel) ?_
      refine T_let 9 (by decide +kernel) ?_
      refine T_if0 (by decide) ?_
      refine T_if1 (by decide +kernel) ?_
      refine T_let 3 (by decide +kernel) ?_
      refine T_if1 (by decide +kernel) ?_
      refine T_let 120 ((z_up_k (by decide)).trans ((z_up_k (by decide)).trans ((z_up_k (by decide)).trans (by decide +kernel)))) ?_
      refine T_of (fX7_get_J23.eq_1 ..) ?_
      refine T_rI ?_
      refine T_if1 (by decide +kernel) ?_
      refine T_let 2 (by decide +kernel) ?_
      refine T_if1 (by decide +kernel) ?_
      refine T_bI ?_
      refine T_of (fX7_get.eq_1 ..) ?_
      refine T_if0 (by decide) ?_
      refine T_if1 (by decide +kernel) ?_
      refine T_let 3 (by decide +kernel) ?_
      refine T_if1 (by decide +kernel) ?_
      refine T_let 9 (by decide +kernel) ?_
      refine T_if0 (by decide) ?_
      refine T_if1 (by decide +kernel) ?_
      refine T_let 3 (by decide +kernel) ?_
      refine T_if1 (by decide +kernel) ?_
      refine T_let 0 ((z_up_k (by decide)).trans ((z_up_k (by decide)).trans ((z_up_k (by decide)).trans (by decide +kernel)))) ?_
      refine T_of (fX7_get_J23.eq_1 ..) ?_
      refine T_rI ?_
      refine T_if1 (by decide +kernel) ?_
      refine T_bN ?_
      refine T_of (fX1_go.eq_1 ..) ?_
      refine T_if1 (by decide) ?_
      refine T_of (fX1_go_J10.eq_1 ..) ?_
      refine T_if1 (by decide +kernel) ?_
      refine T_up0 ((z_up_k (by decide)).trans ((z_up_k (by decide)).trans ((z_up_k (by decide)).trans (by decide +kernel)))) ?_
      refine T_of (fX1_go_L17.eq_2 ..) ?_
      refine T_if1 (by decide +kernel) ?_
      refine T_let 191 (by decide +kernel) ?_
      refine T_if1 (by decide +kernel) ?_
      refine T_let 0 ((z_up_k (by decide)).trans ((z_up_k (by decide)).trans ((z_up_k (by decide)).trans (by decide +kernel)))) ?_
      refine T_if1 (by decide) ?_
      refine T_if1 (by decide +kernel) ?_
      refine T_let 247 (by decide +kernel) ?_
      refine T_if1 (by decide +kernel) ?_
      refine T_let 0 ((z_up_k (by decide)).trans ((z_up_k (by decide)).trans ((z_up_k (by decide)).trans (by decide +kernel)))) ?_
      refine T_if1 (by decide +kernel) ?_
      refine T_let 191 (by decide +kernel) ?_
      refine T_if1 (by decide +kernel) ?_
      refine T_let 0 ((z_up_k (by decide)).trans ((z_up_k (by decide)).trans ((z_up_k (by decide)).trans (by decide +kernel)))) ?_
      refine T_if1 (by decide +kernel) ?_
      refine T_bN ?_
      refine T_of (fX7_put.eq_1 ..) ?_
      refine T_if0 (by decide) ?_
      refine T_if1 (by decide +kernel) ?_
      refine T_let 248 (by decide +kernel) ?_
      refine T_if1 (by decide +kernel) ?_
      refine T_let 201 (by decide +kernel) ?_
      refine T_if0 (by decide) ?_
      refine T_if1 (by decide +kernel) ?_
      refine T_let 248 (by decide +kernel) ?_
      refine T_if1 (by decide +kernel) ?_
      refine T_up0 ((z_up_k (by decide)).trans ((z_up_k (by decide)).trans ((z_up_k (by decide)).trans (by decide +kernel)))) ?_
      refine T_of (fX7_put_J20.eq_1 ..) ?_
      refine T_rN ?_
      refine T_rN ?_
      refine T_if1 (by decide +kernel) ?_
      refine T_let 258 (by decide +kernel) ?_
      refine T_if1 (by decide +kernel) ?_
      refine T_bN ?_
      refine T_of (fX3_build.eq_1 ..) ?_
      refine T_if1 (by decide +kernel) ?_
      refine T_let 279 (by decide +kernel) ?_
      refine T_if1 (by decide +kernel) ?_
      refine T_bN ?_
      refine T_of (fX0_clear.eq_1 ..) ?_
      refine T_if1 (by decide +kernel) ?_
      refine T_up0 ((z_up_k (by decide)).trans ((z_up_k (by decide)).trans ((z_up_k (by decide)).trans (by decide +kernel)))) ?_
      refine T_rN ?_
      refine T_of (fX3_build_L9.eq_2 ..) ?_
      refine T_if1 (by decide +kernel) ?_
      refine T_let 240 (by decide +kernel) ?_
      refine T_if1 (by decide +kernel) ?_
      refine T_let 0 ((z_up_k (by decide)).trans ((z_up_k (by decide)).trans ((z_up_k (by decide)).trans (by decide +kernel)))) ?_
      refine T_if1 (by decide) ?_
      refine T_if1 (by decide +kernel) ?_
      refine T_let 277 (by decide +kernel) ?_
      refine T_if1 (by decide +kernel) ?_
      refine T_let 240 (by decide +kernel) ?_
      refine T_if1 (by decide +kernel) ?_
      refine T_let 0 ((z_up_k (by decide)).trans ((z_up_k (by decide)).trans ((z_up_k (by decide)).trans (by decide +kernel)))) ?_
      refine T_if1 (by decide +kernel) ?_
      refine T_let 279 (by decide +kernel) ?_
      refine T_if1 (by decide +kernel) ?_
      refine T_let 0 ((z_up_k (by decide)).trans ((z_up_k (by decide)).trans ((z_up_k (by decide)).trans (by decide +kernel)))) ?_
      refine T_if1 (by decide +kernel) ?_
      refine T_bN ?_
      refine T_of (fX7_put.eq_1 ..) ?_
      refine T_if0 (by decide) ?_
      refine T_if1 (by decide +kernel) ?_
      refine T_let 278 (by decide +kernel) ?_
      refine T_if1 (by decide +kernel) ?_
      refine T_let 201 (by decide +kernel) ?_
      refine T_if0 (by decide) ?_
      refine T_if1 (by decide +kernel) ?_
      refine T_let 278 (by decide +kernel) ?_
      refine T_if1 (by decide +kernel) ?_
      refine T_up0 ((z_up_k (by decide)).trans ((z_up_k (by decide)).trans ((z_up_k (by decide)).trans (by decide +kernel)))) ?_
      refine T_of (fX7_put_J20.eq_1 ..) ?_
      refine T_rN ?_
      refine T_rN ?_
      refine T_if1 (by decide +kernel) ?_
      refine T_up ?_
      refine T_if1 (by decide +kernel) ?_
      refine T_up0 ((z_up_j (by decide)).trans ((z_up_j (by decide)).trans ((z_up_k (by decide)).trans ((z_up_k (by decide)).trans (by decide +kernel))))) ?_
      refine T_of (fX11_refresh_J78.eq_1 ..) ?_
      refine T_rN ?_
      refine T_if0 (by decide) ?_
      refine T_if1 (by decide +kernel) ?_
      refine T_let 191 (by decide +kernel) ?_
      refine T_if1 (by decide +kernel) ?_
      refine T_let 0 ((z_up_k (by decide)).trans ((z_up_k (by decide)).trans ((z_up_k (by decide)).trans ((z_up_k (by decide)).trans (by decide +kernel))))) ?_
      refine T_of (fX11_text_J45.eq_1 ..) ?_
      refine T_rcI ?_
      refine T_if1 (by decide +kernel) ?_
      refine T_up0 ((z_up_k (by decide)).trans ((z_up_k (by decide)).trans ((z_up_k (by decide)).trans ((z_up_k (by decide)).trans (by decide +kernel))))) ?_
      refine T_rI ?_
      refine T_let 1 (by decide +kernel) ?_
      refine T_if1 (by decide) ?_
      refine T_let p1 q1 ?_
      refine T_if1 (by decide +kernel) ?_
      refine T_bI ?_
      refine T_of (fX12_text.eq_1 ..) ?_
      refine T_if1 (by decide +kernel) ?_
      refine T_up0 ((z_up_k (by decide)).trans ((z_up_k (by decide)).trans ((z_up_k (by decide)).trans ((z_up_k (by decide)).trans (by decide +kernel))))) ?_
      refine T_if1 (by decide +kernel) ?_
      refine T_let 0 ((z_up_k (by decide)).trans ((z_up_k (by decide)).trans ((z_up_k (by decide)).trans ((z_up_k (by decide)).trans (by decide +kernel))))) ?_
      refine T_bI ?_
      refine T_of (fX12_in.eq_1 ..) ?_
      refine T_if0 (by omega) ?_
      refine T_if0 (by omega) ?_
      refine T_of (fX12_in_J15.eq_1 ..) ?_
      refine T_if1 (by decide) ?_
      refine T_rI ?_
      refine T_if1 (by decide) ?_
      refine T_of (fX12_text_J23.eq_1 ..) ?_
      refine T_if1 (by decide +kernel) ?_
      refine T_bI ?_
      refine T_of (fX12_bad.eq_1 ..) ?_
      refine T_if1 (by decide) ?_
      refine T_of (fX12_bad_J26.eq_1 ..) ?_
      refine T_if1 (by decide +kernel) ?_
      refine T_let 0 ((z_up_k (by decide)).trans ((z_up_k (by decide)).trans ((z_up_k (by decide)).trans ((z_up_k (by decide)).trans (by decide +kernel))))) ?_
      refine T_if1 (by decide) ?_
      refine T_of (fX12_bad_J38.eq_1 ..) ?_
      refine T_if1 (by decide) ?_
      refine T_rI ?_
      refine T_if1 (by decide) ?_
      refine T_of (fX12_text_L35.eq_2 ..) ?_
      refine T_if0 (by decide) ?_
      refine T_if1 (by decide +kernel) ?_
      refine T_let 315 (by decide +kernel) ?_
      refine T_if1 (by decide +kernel) ?_
      refine T_let 329 (by decide +kernel) ?_
      refine T_if1 (by decide +kernel) ?_
      refine T_up0 ((z_up_k (by decide)).trans ((z_up_k (by decide)).trans ((z_up_k (by decide)).trans ((z_up_k (by decide)).trans (by decide +kernel))))) ?_
      refine T_let 1 (by decide +kernel) ?_
      refine T_of (fX12_text_L35.eq_2 ..) ?_
      refine T_if0 (by decide) ?_
      refine T_if1 (by decide +kernel) ?_
      refine T_let 315 (by decide +kernel) ?_
      refine T_if1 (by decide +kernel) ?_
      refine T_let 329 (by decide +kernel) ?_
      refine T_if1 (by decide +kernel) ?_
      refine T_up0 ((z_up_k (by decide)).trans ((z_up_k (by decide)).trans ((z_up_k (by decide)).trans ((z_up_k (by decide)).trans (by decide +kernel))))) ?_
      refine T_let 2 (by decide +kernel) ?_
      refine T_of (fX12_text_L35.eq_2 ..) ?_
      refine T_if0 (by decide) ?_
      refine T_if1 (by decide +kernel) ?_
      refine T_let 315 (by decide +kernel) ?_
      refine T_if1 (by decide +kernel) ?_
      refine T_let 329 (by decide +kernel) ?_
      refine T_if1 (by decide +kernel) ?_
      refine T_up0 ((z_up_k (by decide)).trans ((z_up_k (by decide)).trans ((z_up_k (by decide)).trans ((z_up_k (by decide)).trans (by decide +kernel))))) ?_
      refine T_let 3 (by decide +kernel) ?_
      refine T_of (fX12_text_L35.eq_2 ..) ?_
      refine T_if1 (by decide) ?_
      refine T_if1 (by decide +kernel) ?_
      refine T_bI ?_
      refine T_of (fX12_reads.eq_1 ..) ?_
      refine T_if1 (by decide +kernel) ?_
      refine T_up0 ((z_up_k (by decide)).trans ((z_up_k (by decide)).trans ((z_up_k (by decide)).trans ((z_up_k (by decide)).trans (by decide +kernel))))) ?_
      refine T_if1 (by decide +kernel) ?_
      refine T_up ?_
      refine T_if1 (by decide +kernel) ?_
      refine T_up0 ((z_up_j (by decide)).trans ((z_up_k (by decide)).trans ((z_up_k (by decide)).trans ((z_up_k (by decide)).trans ((z_up_k (by decide)).trans (by decide +kernel)))))) ?_
      refine T_if1 (by decide +kernel) ?_
      refine T_up0 ((z_up_j (by decide)).trans ((z_up_k (by decide)).trans ((z_up_k (by decide)).trans ((z_up_k (by decide)).trans ((z_up_k (by decide)).trans (by decide +kernel)))))) ?_
      refine T_if1 (by decide +kernel) ?_
      refine T_up ?_
      refine T_of (fX12_reads_L25.eq_2 ..) ?_
      refine T_if1 (by decide +kernel) ?_
      refine T_bI ?_
      refine T_of (fX12_fine.eq_1 ..) ?_
      refine T_if1 (by decide +kernel) ?_
      refine T_let 0 ((z_up_j (by decide)).trans ((z_up_j (by decide)).trans ((z_up_k (by decide)).trans ((z_up_k (by decide)).trans ((z_up_k (by decide)).trans ((z_up_k (by decide)).trans (by decide +kernel))))))) ?_
      refine T_if0 (by decide) ?_
      refine T_of (fX12_fine_J12.eq_1 ..) ?_
      refine T_if1 (by decide) ?_
      refine T_rI ?_
      refine T_if0 (by decide) ?_
      refine T_if1 (by decide +kernel) ?_
      refine T_let 0 ((z_up_j (by decide)).trans ((z_up_j (by decide)).trans ((z_up_k (by decide)).trans ((z_up_k (by decide)).trans ((z_up_k (by decide)).trans ((z_up_k (by decide)).trans (by decide +kernel))))))) ?_
      refine T_if1 (by decide +kernel) ?_
      refine T_let p1 ((z_up_j (by decide)).trans z_up_s) ?_
      refine T_if1 (by omega) ?_
      refine T_of (fX12_reads_J50.eq_1 ..) ?_
      refine T_if1 (by decide +kernel) ?_
      refine T_let (-1) z_up_s ?_
      refine T_if1 (by decide +kernel) ?_
      refine T_up0 ((z_up_j (by decide)).trans ((z_up_j (by decide)).trans ((z_up_k (by decide)).trans ((z_up_k (by decide)).trans ((z_up_k (by decide)).trans ((z_up_k (by decide)).trans (by decide +kernel))))))) ?_
      refine T_if1 (by decide +kernel) ?_
      refine T_bI ?_
      refine T_of (fX12_fine.eq_1 ..) ?_
      refine T_if1 (by decide +kernel) ?_
      refine T_let 0 ((z_up_j (by decide)).trans ((z_up_j (by decide)).trans ((z_up_k (by decide)).trans ((z_up_k (by decide)).trans ((z_up_k (by decide)).trans ((z_up_k (by decide)).trans (by decide +kernel))))))) ?_
      refine T_if0 (by decide) ?_
      refine T_of (fX12_fine_J12.eq_1 ..) ?_
      refine T_if1 (by decide) ?_
      refine T_rI ?_
      refine T_if1 (by decide) ?_
      refine T_if1 (by decide +kernel) ?_
      refine T_bN ?_
      refine T_of (fX12_stands.eq_1 ..) ?_
      refine T_if1 (by decide +kernel) ?_
      refine T_let 0 ((z_up_j (by decide)).trans ((z_up_j (by decide)).trans ((z_up_k (by decide)).trans ((z_up_k (by decide)).trans ((z_up_k (by decide)).trans ((z_up_k (by decide)).trans (by decide +kernel))))))) ?_
      refine T_if1 (by decide) ?_
      refine T_of (fX12_stands_J41.eq_1 ..) ?_
      refine T_if1 (by decide +kernel) ?_
      refine T_let 0 ((z_up_j (by decide)).trans ((z_up_j (by decide)).trans ((z_up_k (by decide)).trans ((z_up_k (by decide)).trans ((z_up_k (by decide)).trans ((z_up_k (by decide)).trans (by decide +kernel))))))) ?_
      refine T_let 1 (by decide +kernel) ?_
      refine T_if1 (by decide +kernel) ?_
      refine T_up ?_
      refine T_if1 (by decide +kernel) ?_
      refine T_let 1 z_up_s ?_
      refine T_if1 (by decide +kernel) ?_
      refine T_bN ?_
      refine T_of (e_copies_0_1 (((((((z_ZC0.up (by decide)).up (by decide)).up (by decide)).up (by decide)).up (by decide)).up (by decide)).up (by decide))) ?_
      refine T_rN ?_
      refine T_if1 (by decide +kernel) ?_
      refine T_bN ?_
      refine T_of (e_copies_13_0 (((((((z_ZC0.up (by decide)).up (by decide)).up (by decide)).up (by decide)).up (by decide)).up (by decide)).up (by decide))) ?_
      refine T_rN ?_
      refine T_if1 (by decide +kernel) ?_
      refine T_bN ?_
      refine T_of (fX12_laysUnits.eq_1 ..) ?_
      refine T_if1 (by decide +kernel) ?_
      refine T_up0 ((z_up_j (by decide)).trans ((z_up_j (by decide)).trans ((z_up_j (by decide)).trans ((z_up_k (by decide)).trans ((z_up_k (by decide)).trans ((z_up_k (by decide)).trans ((z_up_k (by decide)).trans (by decide +kernel)))))))) ?_
      refine T_of (fX12_laysUnits_L7.eq_2 ..) ?_
      refine T_if1 (by decide +kernel) ?_
      refine T_let 315 (by decide +kernel) ?_
      refine T_if1 (by decide +kernel) ?_
      refine T_let 316 (by decide +kernel) ?_
      refine T_if1 (by decide +kernel) ?_
      refine T_let 0 ((z_up_k (by decide)).trans ((z_up_k (by decide)).trans ((z_up_k (by decide)).trans ((z_up_k (by decide)).trans ((z_up_k (by decide)).trans ((z_up_k (by decide)).trans ((z_up_k (by decide)).trans (by decide +kernel)))))))) ?_
      refine T_if1 (by decide) ?_
      refine T_if1 (by decide +kernel) ?_
      refine T_up0 ((z_up_j (by decide)).trans ((z_up_j (by decide)).trans ((z_up_j (by decide)).trans ((z_up_k (by decide)).trans ((z_up_k (by decide)).trans ((z_up_k (by decide)).trans ((z_up_k (by decide)).trans (by decide +kernel)))))))) ?_
      refine T_rN ?_
      refine T_rN ?_
      refine T_if1 (by decide +kernel) ?_
      refine T_let 0 ((z_up_j (by decide)).trans ((z_up_j (by decide)).trans ((z_up_j (by decide)).trans ((z_up_k (by decide)).trans ((z_up_k (by decide)).trans ((z_up_k (by decide)).trans ((z_up_k (by decide)).trans (by decide +kernel)))))))) ?_
      refine T_rI ?_
      refine T_rI ?_
      refine T_if1 (by decide +kernel) ?_
      refine T_bI ?_
      refine T_of (fX12_thrown.eq_1 ..) ?_
      refine T_if1 (by decide +kernel) ?_
      refine T_let 0 ((z_up_j (by decide)).trans ((z_up_j (by decide)).trans ((z_up_j (by decide)).trans ((z_up_k (by decide)).trans ((z_up_k (by decide)).trans ((z_up_k (by decide)).trans ((z_up_k (by decide)).trans (by decide +kernel)))))))) ?_
      refine T_rI ?_
      refine T_if1 (by decide) ?_
      refine T_if0 (by decide) ?_
      refine T_if1 (by decide +kernel) ?_
      refine T_let 0 ((z_up_k (by decide)).trans ((z_up_k (by decide)).trans ((z_up_k (by decide)).trans ((z_up_k (by decide)).trans ((z_up_k (by decide)).trans ((z_up_k (by decide)).trans ((z_up_k (by decide)).trans (by decide +kernel)))))))) ?_
      refine T_let 0 (by decide +kernel) ?_
      refine T_if1 (by decide) ?_
      refine T_of (fL_law_J314.eq_1 ..) ?_
      refine T_of (fL_law_J2073.eq_1 ..) ?_
      refine T_let 6 (by decide +kernel) ?_
      exact hr _
    · refine T_of (fX11_needWithin_J10.eq_1 ..) ?_
      refine T_if1 (by decide +kernel) ?_
      refine T_let 0 (by decide +kernel) ?_
      refine T_let 1 (by decide +kernel) ?_
      refine T_if1 (by decide +kernel) ?_
      refine T_up ?_
      refine T_xN ?_
      refine T_x1I ?_
      refine T_rI ?_
      refine T_let 1 (by decide +kernel) ?_
      refine T_if1 (by decide) ?_
      refine T_let p1 q1 ?_
      refine T_if1 (by decide +kernel) ?_
      refine T_bI ?_
      refine T_of (fX12_text.eq_1 ..) ?_
      refine T_if1 (by decide +kernel) ?_
      refine T_up0 ((z_up_k (by decide)).trans (by decide +kernel)) ?_
      refine T_if1 (by decide +kernel) ?_
      refine T_let 0 ((z_up_k (by decide)).trans (by decide +kernel)) ?_
      refine T_bI ?_
      refine T_of (fX12_in.eq_1 ..) ?_
      refine T_if0 (by omega) ?_
      refine T_if1 (by omega) ?_
      refine T_of (fX12_in_J14.eq_1 ..) ?_
      refine T_of (fX12_in_J15.eq_1 ..) ?_
      refine T_if1 (by decide) ?_
      refine T_rI ?_
      refine T_if0 (by decide) ?_
      refine T_of (fX12_text_J23.eq_1 ..) ?_
      refine T_if1 (by decide +kernel) ?_
      refine T_bI ?_
      refine T_of (fX12_bad.eq_1 ..) ?_
      refine T_if0 (by decide) ?_
      refine T_if1 (by decide +kernel) ?_
      refine T_let 0 ((z_up_k (by decide)).trans (by decide +kernel)) ?_
      refine T_if0 (by decide) ?_
      refine T_if1 (by decide +kernel) ?_
      refine T_up ?_
      refine T_if1 (by decide +kernel) ?_
      refine T_let 310 (by decide +kernel) ?_
      refine T_if1 (by decide +kernel) ?_
      refine T_let 0 ((z_up_k (by decide)).trans ((z_up_k (by decide)).trans (by decide +kernel))) ?_
      refine T_let 1 (by decide +kernel) ?_
      refine T_if1 (by decide +kernel) ?_
      refine T_up ?_
      refine T_of (fX12_bad_J26.eq_1 ..) ?_
      refine T_if1 (by decide +kernel) ?_
      refine T_let 1 ((z_up_k (by decide)).trans z_up_s) ?_
      refine T_if0 (by decide) ?_
      refine T_of (fX12_bad_J38.eq_1 ..) ?_
      refine T_if1 (by decide) ?_
      refine T_rI ?_
      refine T_if0 (by decide) ?_
      refine T_rI ?_
      refine T_if1 (by decide +kernel) ?_
      refine T_bI ?_
      refine T_of (fX12_thrown.eq_1 ..) ?_
      refine T_if1 (by decide +kernel) ?_
      refine T_let 1 ((z_up_k (by decide)).trans z_up_s) ?_
      refine T_rI ?_
      refine T_if1 (by decide) ?_
      refine T_if1 (by decide) ?_
      refine T_of (fL_law_J314.eq_1 ..) ?_
      refine T_of (fL_law_J2073.eq_1 ..) ?_
      refine T_let 6 (by decide +kernel) ?_
      exact hr _
theorem c_317 {xs : Nat → Int32} {r : z_M → Int → z_O} {k : z_M → z_O} {P : z_V → z_M → Prop} {p1 p2 p3 p4 p5 : Int} (q1 : Int32.toInt (xs 1) = p1) (q2 : Int32.toInt (xs 2) = p2) (q3 : Int32.toInt (xs 3) = p3) (q4 : Int32.toInt (xs 4) = p4) (q5 : Int32.toInt (xs 5) = p5) (hr : ∀ s, z_T (r s 6) P) : z_T (fL_law_J317 1000 6 xs z_s0 1 309 7658 0 r k) P := by
  refine T_of (fL_law_J317.eq_1 ..) ?_
  refine T_let 1 (by decide +kernel) ?_
  refine T_if1 (by decide) ?_
  refine T_let p1 q1 ?_
  refine T_bI ?_
  refine T_of (fL_more.eq_1 ..) ?_
  refine T_if1 (by decide +kernel) ?_
  refine T_cI ?_
  refine T_of (fX11_more.eq_1 ..) ?_
  refine T_if1 (by decide +kernel) ?_
  refine T_let 0 (by decide +kernel) ?_
  refine T_if1 (by decide +kernel) ?_
  refine T_bN ?_
  refine T_of (fX11_needWithin.eq_1 ..) ?_
  refine T_ite (fun h1 => ?_) (fun h1 => ?_)
  · refine T_of (fX11_needWithin_J10.eq_1 ..) ?_
    refine T_if1 (by decide +kernel) ?_
    refine T_let 0 (by decide +kernel) ?_
    refine T_let 1 (by decide +kernel) ?_
    refine T_if1 (by decide +kernel) ?_
    refine T_up ?_
    refine T_xN ?_
    refine T_x1I ?_
    refine T_rI ?_
    refine T_let 1 (by decide +kernel) ?_
    refine T_if1 (by decide) ?_
    refine T_let p1 q1 ?_
    refine T_if1 (by decide +kernel) ?_
    refine T_bI ?_
    refine T_of (fX12_more_.eq_1 ..) ?_
    refine T_if1 (by decide +kernel) ?_
    refine T_up0 ((z_up_k (by decide)).trans (by decide +kernel)) ?_
    refine T_if1 (by decide +kernel) ?_
    refine T_let 0 ((z_up_k (by decide)).trans (by decide +kernel)) ?_
    refine T_bI ?_
    refine T_of (fX12_in.eq_1 ..) ?_
    refine T_if1 (by omega) ?_
    refine T_of (fX12_in_J14.eq_1 ..) ?_
    refine T_of (fX12_in_J15.eq_1 ..) ?_
    refine T_if1 (by decide) ?_
    refine T_rI ?_
    refine T_if0 (by decide) ?_
    refine T_of (fX12_more__J23.eq_1 ..) ?_
    refine T_if1 (by decide +kernel) ?_
    refine T_bI ?_
    refine T_of (fX12_bad.eq_1 ..) ?_
    refine T_if0 (by decide) ?_
    refine T_if1 (by decide +kernel) ?_
    refine T_let 0 ((z_up_k (by decide)).trans (by decide +kernel)) ?_
    refine T_if0 (by decide) ?_
    refine T_if1 (by decide +kernel) ?_
    refine T_up ?_
    refine T_if1 (by decide +kernel) ?_
    refine T_let 310 (by decide +kernel) ?_
    refine T_if1 (by decide +kernel) ?_
    refine T_let 0 ((z_up_k (by decide)).trans ((z_up_k (by decide)).trans (by decide +kernel))) ?_
    refine T_let 1 (by decide +kernel) ?_
    refine T_if1 (by decide +kernel) ?_
    refine T_up ?_
    refine T_of (fX12_bad_J26.eq_1 ..) ?_
    refine T_if1 (by decide +kernel) ?_
    refine T_let 1 ((z_up_k (by decide)).trans z_up_s) ?_
    refine T_if0 (by decide) ?_
    refine T_of (fX12_bad_J38.eq_1 ..) ?_
    refine T_if1 (by decide) ?_
    refine T_rI ?_
    refine T_if0 (by decide) ?_
    refine T_rI ?_
    refine T_if1 (by decide +kernel) ?_
    refine T_bI ?_
    refine T_of (fX12_thrown.eq_1 ..) ?_
    refine T_if1 (by decide +kernel) ?_
    refine T_let 1 ((z_up_k (by decide)).trans z_up_s) ?_
    refine T_rI ?_
    refine T_if1 (by decide) ?_
    refine T_if1 (by decide) ?_
    refine T_of (fL_law_J370.eq_1 ..) ?_
    refine T_of (fL_law_J2073.eq_1 ..) ?_
    refine T_let 6 (by decide +kernel) ?_
    exact hr _
  · refine T_ite (fun h2 => ?_) (fun h2 => ?_)
    · refine T_rN ?_
      refine T_if1 (by decide +kernel) ?_
      refine T_let 19 (by decide +kernel) ?_
      refine T_if1 (by decide +kernel) ?_
      refine T_let 6 (by decide +kernel) ?_
      refine T_if1 (by decide +kernel) ?_
      refine T_bN ?_
      refine T_of (fX9_copyFrom.eq_1 ..) ?_
      refine T_if1 (by decide +kernel) ?_
      refine T_let 0 (by decide +kernel) ?_
      refine T_if1 (by decide +kernel) ?_
      refine T_up0 (by decide +kernel) ?_
      refine T_if1 (by decide +kernel) ?_
      refine T_let 0 (by decide +kernel) ?_
      refine T_if1 (by decide +kernel) ?_
      refine T_up0 (by decide +kernel) ?_
      refine T_if1 (by decide +kernel) ?_
      refine T_let 0 (by decide +kernel) ?_
      refine T_if1 (by decide +kernel) ?_
      refine T_up0 (by decide +kernel) ?_
      refine T_if1 (by decide +kernel) ?_
      refine T_let 20 (by decide +kernel) ?_
      refine T_if1 (by decide +kernel) ?_
      refine T_let 7 (by decide +kernel) ?_
      refine T_if1 (by decide +kernel) ?_
      refine T_let 0 (by decide +kernel) ?_
      refine T_if1 (by decide +kernel) ?_
      refine T_bN ?_
      refine T_of (fX7_copyFrom.eq_1 ..) ?_
      refine T_of (fX7_copyFrom_L2.eq_2 ..) ?_
      refine T_if1 (by decide) ?_
      refine T_rN ?_
      refine T_if1 (by decide +kernel) ?_
      refine T_let 22 (by decide +kernel) ?_
      refine T_if1 (by decide +kernel) ?_
      refine T_let 9 (by decide +kernel) ?_
      refine T_if1 (by decide +kernel) ?_
      refine T_let 0 (by decide +kernel) ?_
      refine T_if1 (by decide +kernel) ?_
      refine T_bN ?_
      refine T_of (fX7_copyFrom.eq_1 ..) ?_
      refine T_of (fX7_copyFrom_L2.eq_2 ..) ?_
      refine T_if1 (by decide) ?_
      refine T_rN ?_
      refine T_if1 (by decide +kernel) ?_
      refine T_let 24 (by decide +kernel) ?_
      refine T_if1 (by decide +kernel) ?_
      refine T_let 11 (by decide +kernel) ?_
      refine T_if1 (by decide +kernel) ?_
      refine T_let 0 (by decide +kernel) ?_
      refine T_if1 (by decide +kernel) ?_
      refine T_bN ?_
      refine T_of (fX7_copyFrom.eq_1 ..) ?_
      refine T_of (fX7_copyFrom_L2.eq_2 ..) ?_
      refine T_if1 (by decide) ?_
      refine T_rN ?_
      refine T_if1 (by decide +kernel) ?_
      refine T_let 26 (by decide +kernel) ?_
      refine T_if1 (by decide +kernel) ?_
      refine T_let 13 (by decide +kernel) ?_
      refine T_if1 (by decide +kernel) ?_
      refine T_let 0 (by decide +kernel) ?_
      refine T_if1 (by decide +kernel) ?_
      refine T_bN ?_
      refine T_of (fX7_copyFrom.eq_1 ..) ?_
      refine T_of (fX7_copyFrom_L2.eq_2 ..) ?_
      refine T_if1 (by decide) ?_
      refine T_rN ?_
      refine T_if1 (by decide +kernel) ?_
      refine T_let 28 (by decide +kernel) ?_
      refine T_if1 (by decide +kernel) ?_
      refine T_let 15 (by decide +kernel) ?_
      refine T_if1 (by decide +kernel) ?_
      refine T_let 0 (by decide +kernel) ?_
      refine T_if1 (by decide +kernel) ?_
      refine T_bN ?_
      refine T_of (fX4_copyFrom.eq_1 ..) ?_
      refine T_of (fX4_copyFrom_L2.eq_2 ..) ?_
      refine T_if1 (by decide) ?_
      refine T_rN ?_
      refine T_if1 (by decide +kernel) ?_
      refine T_let 30 (by decide +kernel) ?_
      refine T_if1 (by decide +kernel) ?_
      refine T_let 17 (by decide +kernel) ?_
      refine T_if1 (by decide +kernel) ?_
      refine T_let 0 (by decide +kernel) ?_
      refine T_if1 (by decide +kernel) ?_
      refine T_bN ?_
      refine T_of (fX4_copyFrom.eq_1 ..) ?_
      refine T_of (fX4_copyFrom_L2.eq_2 ..) ?_
      refine T_if1 (by decide) ?_
      refine T_rN ?_
      refine T_rN ?_
      refine T_if1 (by decide +kernel) ?_
      refine T_bI ?_
      refine T_of (fX11_readTape.eq_1 ..) ?_
      refine T_if1 (by decide +kernel) ?_
      refine T_let 32 (by decide +kernel) ?_
      refine T_if1 (by decide +kernel) ?_
      refine T_let 4 (by decide +kernel) ?_
      refine T_if1 (by decide +kernel) ?_
      refine T_bI ?_
      refine T_of (fX6_read.eq_1 ..) ?_
      refine T_if1 (by decide +kernel) ?_
      refine T_up0 (by decide +kernel) ?_
      refine T_if1 (by decide +kernel) ?_
      refine T_up0 (by decide +kernel) ?_
      refine T_of (fX6_read_L10.eq_2 ..) ?_
      refine T_if1 (by decide +kernel) ?_
      refine T_let 0 (by decide +kernel) ?_
      refine T_if1 (by omega) ?_
      refine T_if1 (by decide +kernel) ?_
      refine T_let 0 (by decide +kernel) ?_
      refine T_if0 (by decide) ?_
      refine T_of (fX6_read_J62.eq_1 ..) ?_
      refine T_rI ?_
      refine T_if0 (by decide) ?_
      refine T_of (fX11_readTape_J29.eq_1 ..) ?_
      refine T_if1 (by decide +kernel) ?_
      refine T_up0 (by decide +kernel) ?_
      refine T_if1 (by decide +kernel) ?_
      refine T_up0 (by decide +kernel) ?_
      refine T_if0 (by decide) ?_
      refine T_if1 (by decide +kernel) ?_
      refine T_let 33 (by decide +kernel) ?_
      refine T_if1 (by decide +kernel) ?_
      refine T_let 6 (by decide +kernel) ?_
      refine T_if1 (by decide +kernel) ?_
      refine T_bN ?_
      refine T_of (fX2_keep.eq_1 ..) ?_
      refine T_if1 (by decide +kernel) ?_
      refine T_bR ?_
      refine T_of (fX2_place.eq_1 ..) ?_
      refine T_if1 (by decide +kernel) ?_
      refine T_let 0 (by decide +kernel) ?_
      refine T_if0 (by decide) ?_
      refine T_if1 (by decide +kernel) ?_
      refine T_let 0 (by decide +kernel) ?_
      refine T_if1 (by decide +kernel) ?_
      refine T_let 34 (by decide +kernel) ?_
      refine T_if1 (by decide +kernel) ?_
      refine T_let 12 (by decide +kernel) ?_
      refine T_if0 (by decide) ?_
      refine T_if1 (by decide +kernel) ?_
      refine T_let 34 (by decide +kernel) ?_
      refine T_if1 (by decide +kernel) ?_
      refine T_let 0 (by decide +kernel) ?_
      refine T_if1 (by decide +kernel) ?_
      refine T_let 35 (by decide +kernel) ?_
      refine T_of (fX2_place_J32.eq_1 ..) ?_
      refine T_rR ?_
      refine T_if1 (by decide) ?_
      refine T_if1 (by decide +kernel) ?_
      refine T_bN ?_
      refine T_of (fX9_copyFrom.eq_1 ..) ?_
      refine T_if1 (by decide +kernel) ?_
      refine T_let 0 (by decide +kernel) ?_
      refine T_if1 (by decide +kernel) ?_
      refine T_up0 (by decide +kernel) ?_
      refine T_if1 (by decide +kernel) ?_
      refine T_let 0 (by decide +kernel) ?_
      refine T_if1 (by decide +kernel) ?_
      refine T_up0 (by decide +kernel) ?_
      refine T_if1 (by decide +kernel) ?_
      refine T_let 0 (by decide +kernel) ?_
      refine T_if1 (by decide +kernel) ?_
      refine T_up0 (by decide +kernel) ?_
      refine T_if1 (by decide +kernel) ?_
      refine T_let 36 (by decide +kernel) ?_
      refine T_if1 (by decide +kernel) ?_
      refine T_let 7 (by decide +kernel) ?_
      refine T_if1 (by decide +kernel) ?_
      refine T_let 0 (by decide +kernel) ?_
      refine T_if1 (by decide +kernel) ?_
      refine T_bN ?_
      refine T_of (fX7_copyFrom.eq_1 ..) ?_
      refine T_of (fX7_copyFrom_L2.eq_2 ..) ?_
      refine T_if1 (by decide) ?_
      refine T_rN ?_
      refine T_if1 (by decide +kernel) ?_
      refine T_let 38 (by decide +kernel) ?_
      refine T_if1 (by decide +kernel) ?_
      refine T_let 9 (by decide +kernel) ?_
      refine T_if1 (by decide +kernel) ?_
      refine T_let 0 (by decide +kernel) ?_
      refine T_if1 (by decide +kernel) ?_
      refine T_bN ?_
      refine T_of (fX7_copyFrom.eq_1 ..) ?_
      refine T_of (fX7_copyFrom_L2.eq_2 ..) ?_
      refine T_if1 (by decide) ?_
      refine T_rN ?_
      refine T_if1 (by decide +kernel) ?_
      refine T_let 40 (by decide +kernel) ?_
      refine T_if1 (by decide +kernel) ?_
      refine T_let 11 (by decide +kernel) ?_
      refine T_if1 (by decide +kernel) ?_
      refine T_let 0 (by decide +kernel) ?_
      refine T_if1 (by decide +kernel) ?_
      refine T_bN ?_
      refine T_of (fX7_copyFrom.eq_1 ..) ?_
      refine T_of (fX7_copyFrom_L2.eq_2 ..) ?_
      refine T_if1 (by decide) ?_
      refine T_rN ?_
      refine T_if1 (by decide +kernel) ?_
      refine T_let 42 (by decide +kernel) ?_
      refine T_if1 (by decide +kernel) ?_
      refine T_let 13 (by decide +kernel) ?_
      refine T_if1 (by decide +kernel) ?_
      refine T_let 0 (by decide +kernel) ?_
      refine T_if1 (by decide +kernel) ?_
      refine T_bN ?_
      refine T_of (fX7_copyFrom.eq_1 ..) ?_
      refine T_of (fX7_copyFrom_L2.eq_2 ..) ?_
      refine T_if1 (by decide) ?_
      refine T_rN ?_
      refine T_if1 (by decide +kernel) ?_
      refine T_let 44 (by decide +kernel) ?_
      refine T_if1 (by decide +kernel) ?_
      refine T_let 15 (by decide +kernel) ?_
      refine T_if1 (by decide +kernel) ?_
      refine T_let 0 (by decide +kernel) ?_
      refine T_if1 (by decide +kernel) ?_
      refine T_bN ?_
      refine T_of (fX4_copyFrom.eq_1 ..) ?_
      refine T_of (fX4_copyFrom_L2.eq_2 ..) ?_
      refine T_if1 (by decide) ?_
      refine T_rN ?_
      refine T_if1 (by decide +kernel) ?_
      refine T_let 46 (by decide +kernel) ?_
      refine T_if1 (by decide +kernel) ?_
      refine T_let 17 (by decide +kernel) ?_
      refine T_if1 (by decide +kernel) ?_
      refine T_let 0 (by decide +kernel) ?_
      refine T_if1 (by decide +kernel) ?_
      refine T_bN ?_
      refine T_of (fX4_copyFrom.eq_1 ..) ?_
      refine T_of (fX4_copyFrom_L2.eq_2 ..) ?_
      refine T_if1 (by decide) ?_
      refine T_rN ?_
      refine T_rN ?_
      refine T_if1 (by decide +kernel) ?_
      refine T_let 0 (by decide +kernel) ?_
      refine T_let 1 (by decide +kernel) ?_
      refine T_if0 (by decide) ?_
      refine T_if1 (by decide +kernel) ?_
      refine T_let 0 (by decide +kernel) ?_
      refine T_let 1 (by decide +kernel) ?_
      refine T_of (fX2_keep_J36.eq_1 ..) ?_
      refine T_if1 (by decide +kernel) ?_
      refine T_up ?_
      refine T_if1 (by decide +kernel) ?_
      refine T_let 0 ((z_up_j (by decide)).trans (by decide +kernel)) ?_
      refine T_let 1 (by decide +kernel) ?_
      refine T_let 1 (by decide +kernel) ?_
      refine T_if1 (by decide +kernel) ?_
      refine T_up ?_
      refine T_rN ?_
      refine T_if1 (by decide +kernel) ?_
      refine T_let 6 (by decide +kernel) ?_
      refine T_if1 (by decide +kernel) ?_
      refine T_let 19 (by decide +kernel) ?_
      refine T_if1 (by decide +kernel) ?_
      refine T_bN ?_
      refine T_of (fX9_copyFrom.eq_1 ..) ?_
      refine T_if1 (by decide +kernel) ?_
      refine T_let 0 ((z_up_k (by decide)).trans ((z_up_k (by decide)).trans (by decide +kernel))) ?_
      refine T_if1 (by decide +kernel) ?_
      refine T_up0 ((z_up_k (by decide)).trans ((z_up_k (by decide)).trans (by decide +kernel))) ?_
      refine T_if1 (by decide +kernel) ?_
      refine T_let 0 ((z_up_k (by decide)).trans ((z_up_k (by decide)).trans (by decide +kernel))) ?_
      refine T_if1 (by decide +kernel) ?_
      refine T_up0 ((z_up_k (by decide)).trans ((z_up_k (by decide)).trans (by decide +kernel))) ?_
      refine T_if1 (by decide +kernel) ?_
      refine T_let 0 ((z_up_k (by decide)).trans ((z_up_k (by decide)).trans (by decide +kernel))) ?_
      refine T_if1 (by decide +kernel) ?_
      refine T_up0 ((z_up_k (by decide)).trans ((z_up_k (by decide)).trans (by decide +kernel))) ?_
      refine T_if1 (by decide +kernel) ?_
      refine T_let 7 (by decide +kernel) ?_
      refine T_if1 (by decide +kernel) ?_
      refine T_let 20 (by decide +kernel) ?_
      refine T_if1 (by decide +kernel) ?_
      refine T_let 0 ((z_up_k (by decide)).trans ((z_up_k (by decide)).trans (by decide +kernel))) ?_
      refine T_if1 (by decide +kernel) ?_
      refine T_bN ?_
      refine T_of (fX7_copyFrom.eq_1 ..) ?_
      refine T_of (fX7_copyFrom_L2.eq_2 ..) ?_
      refine T_if1 (by decide) ?_
      refine T_rN ?_
      refine T_if1 (by decide +kernel) ?_
      refine T_let 9 (by decide +kernel) ?_
      refine T_if1 (by decide +kernel) ?_
      refine T_let 22 (by decide +kernel) ?_
      refine T_if1 (by decide +kernel) ?_
      refine T_let 0 ((z_up_k (by decide)).trans ((z_up_k (by decide)).trans (by decide +kernel))) ?_
      refine T_if1 (by decide +kernel) ?_
      refine T_bN ?_
      refine T_of (fX7_copyFrom.eq_1 ..) ?_
      refine T_of (fX7_copyFrom_L2.eq_2 ..) ?_
      refine T_if1 (by decide) ?_
      refine T_rN ?_
      refine T_if1 (by decide +kernel) ?_
      refine T_let 11 (by decide +kernel) ?_
      refine T_if1 (by decide +kernel) ?_
      refine T_let 24 (by decide +kernel) ?_
      refine T_if1 (by decide +kernel) ?_
      refine T_let 0 ((z_up_k (by decide)).trans ((z_up_k (by decide)).trans (by decide +kernel))) ?_
      refine T_if1 (by decide +kernel) ?_
      refine T_bN ?_
      refine T_of (fX7_copyFrom.eq_1 ..) ?_
      refine T_of (fX7_copyFrom_L2.eq_2 ..) ?_
      refine T_if1 (by decide) ?_
      refine T_rN ?_
      refine T_if1 (by decide +kernel) ?_
      refine T_let 13 (by decide +kernel) ?_
      refine T_if1 (by decide +kernel) ?_
      refine T_let 26 (by decide +kernel) ?_
      refine T_if1 (by decide +kernel) ?_
      refine T_let 0 ((z_up_k (by decide)).trans ((z_up_k (by decide)).trans (by decide +kernel))) ?_
      refine T_if1 (by decide +kernel) ?_
      refine T_bN ?_
      refine T_of (fX7_copyFrom.eq_1 ..) ?_
      refine T_of (fX7_copyFrom_L2.eq_2 ..) ?_
      refine T_if1 (by decide) ?_
      refine T_rN ?_
      refine T_if1 (by decide +kernel) ?_
      refine T_let 15 (by decide +kernel) ?_
      refine T_if1 (by decide +kernel) ?_
      refine T_let 28 (by decide +kernel) ?_
      refine T_if1 (by decide +kernel) ?_
      refine T_let 0 ((z_up_k (by decide)).trans ((z_up_k (by decide)).trans (by decide +kernel))) ?_
      refine T_if1 (by decide +kernel) ?_
      refine T_bN ?_
      refine T_of (fX4_copyFrom.eq_1 ..) ?_
      refine T_of (fX4_copyFrom_L2.eq_2 ..) ?_
      refine T_if1 (by decide) ?_
      refine T_rN ?_
      refine T_if1 (by decide +kernel) ?_
      refine T_let 17 (by decide +kernel) ?_
      refine T_if1 (by decide +kernel) ?_
      refine T_let 30 (by decide +kernel) ?_
      refine T_if1 (by decide +kernel) ?_
      refine T_let 0 ((z_up_k (by decide)).trans ((z_up_k (by decide)).trans (by decide +kernel))) ?_
      refine T_if1 (by decide +kernel) ?_
      refine T_bN ?_
      refine T_of (fX4_copyFrom.eq_1 ..) ?_
      refine T_of (fX4_copyFrom_L2.eq_2 ..) ?_
      refine T_if1 (by decide) ?_
      refine T_rN ?_
      refine T_rN ?_
      refine T_if1 (by decide +kernel) ?_
      refine T_up0 ((z_up_k (by decide)).trans ((z_up_k (by decide)).trans (by decide +kernel))) ?_
      refine T_of (fX11_readTape_J68.eq_1 ..) ?_
      refine T_rI ?_
      refine T_if1 (by decide +kernel) ?_
      refine T_bN ?_
      refine T_of (fX11_refresh.eq_1 ..) ?_
      refine T_if1 (by decide +kernel) ?_
      refine T_let 0 ((z_up_k (by decide)).trans ((z_up_k (by decide)).trans (by decide +kernel))) ?_
      refine T_if0 (by decide) ?_
      refine T_if1 (by decide +kernel) ?_
      refine T_let 191 (by decide +kernel) ?_
      refine T_if1 (by decide +kernel) ?_
      refine T_bN ?_
      refine T_of (fX10_build.eq_1 ..) ?_
      refine T_if1 (by decide +kernel) ?_
      refine T_bN ?_
      refine T_of (fX10_split.eq_1 ..) ?_
      refine T_if1 (by decide +kernel) ?_
      refine T_up0 ((z_up_k (by decide)).trans ((z_up_k (by decide)).trans (by decide +kernel))) ?_
      refine T_of (fX10_split_L7.eq_2 ..) ?_
      refine T_if1 (by decide +kernel) ?_
      refine T_let 6 (by decide +kernel) ?_
      refine T_if1 (by decide +kernel) ?_
      refine T_let 0 ((z_up_k (by decide)).trans ((z_up_k (by decide)).trans (by decide +kernel))) ?_
      refine T_if1 (by decide) ?_
      refine T_rN ?_
      refine T_of (fX10_build_L6.eq_2 ..) ?_
      refine T_if1 (by decide +kernel) ?_
      refine T_let 0 ((z_up_k (by decide)).trans ((z_up_k (by decide)).trans (by decide +kernel))) ?_
      refine T_if1 (by decide) ?_
      refine T_if1 (by decide +kernel) ?_
      refine T_bN ?_
      refine T_of (fX10_addUp.eq_1 ..) ?_
      refine T_of (fX10_addUp_L2.eq_2 ..) ?_
      refine T_if1 (by decide +kernel) ?_
      refine T_let 0 ((z_up_k (by decide)).trans ((z_up_k (by decide)).trans (by decide +kernel))) ?_
      refine T_if1 (by decide) ?_
      refine T_rN ?_
      refine T_if1 (by decide +kernel) ?_
      refine T_bN ?_
      refine T_of (fX10_pairUp.eq_1 ..) ?_
      refine T_if1 (by decide +kernel) ?_
      refine T_up0 ((z_up_k (by decide)).trans ((z_up_k (by decide)).trans (by decide +kernel))) ?_
      refine T_of (fX10_pairUp_L7.eq_2 ..) ?_
      refine T_if1 (by decide +kernel) ?_
      refine T_let 0 ((z_up_k (by decide)).trans ((z_up_k (by decide)).trans (by decide +kernel))) ?_
      refine T_if1 (by decide) ?_
      refine T_rN ?_
      refine T_of (fX10_build_L35.eq_2 ..) ?_
      refine T_if1 (by decide +kernel) ?_
      refine T_let 0 ((z_up_k (by decide)).trans ((z_up_k (by decide)).trans (by decide +kernel))) ?_
      refine T_if1 (by decide) ?_
      refine T_if1 (by decide +kernel) ?_
      refine T_bN ?_
      refine T_of (fX10_tie.eq_1 ..) ?_
      refine T_if1 (by decide +kernel) ?_
      refine T_up0 ((z_up_k (by decide)).trans ((z_up_k (by decide)).trans (by decide +kernel))) ?_
      refine T_of (fX10_tie_L7.eq_2 ..) ?_
      refine T_if1 (by decide +kernel) ?_
      refine T_let 0 ((z_up_k (by decide)).trans ((z_up_k (by decide)).trans (by decide +kernel))) ?_
      refine T_if1 (by decide) ?_
      refine T_rN ?_
      refine T_rN ?_
      refine T_if1 (by decide +kernel) ?_
      refine T_let 220 (by decide +kernel) ?_
      refine T_if1 (by decide +kernel) ?_
      refine T_bN ?_
      refine T_of (fX5_forget.eq_1 ..) ?_
      refine T_if1 (by decide +kernel) ?_
      refine T_let 221 (by decide +kernel) ?_
      refine T_if1 (by decide +kernel) ?_
      refine T_let 191 (by decide +kernel) ?_
      refine T_if1 (by decide +kernel) ?_
      refine T_let 0 ((z_up_k (by decide)).trans ((z_up_k (by decide)).trans (by decide +kernel))) ?_
      refine T_bI ?_
      refine T_of (fX5_slotOf.eq_1 ..) ?_
      refine T_let 1 (by decide +kernel) ?_
      refine T_let 0 (by decide +kernel) ?_
      refine T_if1 (by decide) ?_
      refine T_let 0 (by decide +kernel) ?_
      refine T_let 0 (by decide +kernel) ?_
      refine T_rI ?_
      refine T_if1 (by decide +kernel) ?_
      refine T_bN ?_
      refine T_of (fX7_clear.eq_1 ..) ?_
      refine T_of (fX7_clear_L2.eq_2 ..) ?_
      refine T_if1 (by decide) ?_
      refine T_rN ?_
      refine T_rN ?_
      refine T_if1 (by decide +kernel) ?_
      refine T_up ?_
      refine T_if1 (by decide +kernel) ?_
      refine T_up0 ((z_up_j (by decide)).trans ((z_up_k (by decide)).trans ((z_up_k (by decide)).trans (by decide +kernel)))) ?_
      refine T_of (fX11_refresh_J31.eq_1 ..) ?_
      refine T_if1 (by decide +kernel) ?_
      refine T_let 0 ((z_up_j (by decide)).trans ((z_up_k (by decide)).trans ((z_up_k (by decide)).trans (by decide +kernel)))) ?_
      refine T_if0 (by decide) ?_
      refine T_if1 (by decide +kernel) ?_
      refine T_let 240 (by decide +kernel) ?_
      refine T_if1 (by decide +kernel) ?_
      refine T_let 2 (by decide +kernel) ?_
      refine T_if1 (by decide +kernel) ?_
      refine T_bI ?_
      refine T_of (fX7_get.eq_1 ..) ?_
      refine T_if0 (by decide) ?_
      refine T_if1 (by decide +kernel) ?_
      refine T_let 3 (by decide +kernel) ?_
      refine T_if1 (by decide +kernel) ?_
      refine T_let 9 (by decide +kernel) ?_
      refine T_if0 (by decide) ?_
      refine T_if1 (by decide +kernel) ?_
      refine T_let 3 (by decide +kernel) ?_
      refine T_if1 (by decide +kernel) ?_
      refine T_let 120 ((z_up_k (by decide)).trans ((z_up_k (by decide)).trans ((z_up_k (by decide)).trans (by decide +kernel)))) ?_
      refine T_of (fX7_get_J23.eq_1 ..) ?_
      refine T_rI ?_
      refine T_if1 (by decide +kernel) ?_
      refine T_let 2 (by decide +kernel) ?_
      refine T_if1 (by decide +kernel) ?_
      refine T_bI ?_
      refine T_of (fX7_get.eq_1 ..) ?_
      refine T_if0 (by decide) ?_
      refine T_if1 (by decide +kernel) ?_
      refine T_let 3 (by decide +kernel) ?_
      refine T_if1 (by decide +kernel) ?_
      refine T_let 9 (by decide +kernel) ?_
      refine T_if0 (by decide) ?_
      refine T_if1 (by decide +kernel) ?_
      refine T_let 3 (by decide +kernel) ?_
      refine T_if1 (by decide +kernel) ?_
      refine T_let 0 ((z_up_k (by decide)).trans ((z_up_k (by decide)).trans ((z_up_k (by decide)).trans (by decide +kernel)))) ?_
      refine T_of (fX7_get_J23.eq_1 ..) ?_
      refine T_rI ?_
      refine T_if1 (by decide +kernel) ?_
      refine T_bN ?_
      refine T_of (fX1_go.eq_1 ..) ?_
      refine T_if1 (by decide) ?_
      refine T_of (fX1_go_J10.eq_1 ..) ?_
      refine T_if1 (by decide +kernel) ?_
      refine T_up0 ((z_up_k (by decide)).trans ((z_up_k (by decide)).trans ((z_up_k (by decide)).trans (by decide +kernel)))) ?_
      refine T_of (fX1_go_L17.eq_2 ..) ?_
      refine T_if1 (by decide +kernel) ?_
      refine T_let 191 (by decide +kernel) ?_
      refine T_if1 (by decide +kernel) ?_
      refine T_let 0 ((z_up_k (by decide)).trans ((z_up_k (by decide)).trans ((z_up_k (by decide)).trans (by decide +kernel)))) ?_
      refine T_if1 (by decide) ?_
      refine T_if1 (by decide +kernel) ?_
      refine T_let 247 (by decide +kernel) ?_
      refine T_if1 (by decide +kernel) ?_
      refine T_let 0 ((z_up_k (by decide)).trans ((z_up_k (by decide)).trans ((z_up_k (by decide)).trans (by decide +kernel)))) ?_
      refine T_if1 (by decide +kernel) ?_
      refine T_let 191 (by decide +kernel) ?_
      refine T_if1 (by decide +kernel) ?_
      refine T_let 0 ((z_up_k (by decide)).trans ((z_up_k (by decide)).trans ((z_up_k (by decide)).trans (by decide +kernel)))) ?_
      refine T_if1 (by decide +kernel) ?_
      refine T_bN ?_
      refine T_of (fX7_put.eq_1 ..) ?_
      refine T_if0 (by decide) ?_
      refine T_if1 (by decide +kernel) ?_
      refine T_let 248 (by decide +kernel) ?_
      refine T_if1 (by decide +kernel) ?_
      refine T_let 201 (by decide +kernel) ?_
      refine T_if0 (by decide) ?_
      refine T_if1 (by decide +kernel) ?_
      refine T_let 248 (by decide +kernel) ?_
      refine T_if1 (by decide +kernel) ?_
      refine T_up0 ((z_up_k (by decide)).trans ((z_up_k (by decide)).trans ((z_up_k (by decide)).trans (by decide +kernel)))) ?_
      refine T_of (fX7_put_J20.eq_1 ..) ?_
      refine T_rN ?_
      refine T_rN ?_
      refine T_if1 (by decide +kernel) ?_
      refine T_let 258 (by decide +kernel) ?_
      refine T_if1 (by decide +kernel) ?_
      refine T_bN ?_
      refine T_of (fX3_build.eq_1 ..) ?_
      refine T_if1 (by decide +kernel) ?_
      refine T_let 279 (by decide +kernel) ?_
      refine T_if1 (by decide +kernel) ?_
      refine T_bN ?_
      refine T_of (fX0_clear.eq_1 ..) ?_
      refine T_if1 (by decide +kernel) ?_
      refine T_up0 ((z_up_k (by decide)).trans ((z_up_k (by decide)).trans ((z_up_k (by decide)).trans (by decide +kernel)))) ?_
      refine T_rN ?_
      refine T_of (fX3_build_L9.eq_2 ..) ?_
      refine T_if1 (by decide +kernel) ?_
      refine T_let 240 (by decide +kernel) ?_
      refine T_if1 (by decide +kernel) ?_
      refine T_let 0 ((z_up_k (by decide)).trans ((z_up_k (by decide)).trans ((z_up_k (by decide)).trans (by decide +kernel)))) ?_
      refine T_if1 (by decide) ?_
      refine T_if1 (by decide +kernel) ?_
      refine T_let 277 (by decide +kernel) ?_
      refine T_if1 (by decide +kernel) ?_
      refine T_let 240 (by decide +kernel) ?_
      refine T_if1 (by decide +kernel) ?_
      refine T_let 0 ((z_up_k (by decide)).trans ((z_up_k (by decide)).trans ((z_up_k (by decide)).trans (by decide +kernel)))) ?_
      refine T_if1 (by decide +kernel) ?_
      refine T_let 279 (by decide +kernel) ?_
      refine T_if1 (by decide +kernel) ?_
      refine T_let 0 ((z_up_k (by decide)).trans ((z_up_k (by decide)).trans ((z_up_k (by decide)).trans (by decide +kernel)))) ?_
      refine T_if1 (by decide +kernel) ?_
      refine T_bN ?_
      refine T_of (fX7_put.eq_1 ..) ?_
      refine T_if0 (by decide) ?_
      refine T_if1 (by decide +kernel) ?_
      refine T_let 278 (by decide +kernel) ?_
      refine T_if1 (by decide +kernel) ?_
      refine T_let 201 (by decide +kernel) ?_
      refine T_if0 (by decide) ?_
      refine T_if1 (by decide +kernel) ?_
      refine T_let 278 (by decide +kernel) ?_
      refine T_if1 (by decide +kernel) ?_
      refine T_up0 ((z_up_k (by decide)).trans ((z_up_k (by decide)).trans ((z_up_k (by decide)).trans (by decide +kernel)))) ?_
      refine T_of (fX7_put_J20.eq_1 ..) ?_
      refine T_rN ?_
      refine T_rN ?_
      refine T_if1 (by decide +kernel) ?_
      refine T_up ?_
      refine T_if1 (by decide +kernel) ?_
      refine T_up0 ((z_up_j (by decide)).trans ((z_up_j (by decide)).trans ((z_up_k (by decide)).trans ((z_up_k (by decide)).trans (by decide +kernel))))) ?_
      refine T_of (fX11_refresh_J78.eq_1 ..) ?_
      refine T_rN ?_
      refine T_if0 (by decide) ?_
      refine T_if1 (by decide +kernel) ?_
      refine T_let 191 (by decide +kernel) ?_
      refine T_if1 (by decide +kernel) ?_
      refine T_let 0 ((z_up_k (by decide)).trans ((z_up_k (by decide)).trans ((z_up_k (by decide)).trans ((z_up_k (by decide)).trans (by decide +kernel))))) ?_
      refine T_of (fX11_more_J49.eq_1 ..) ?_
      refine T_rcI ?_
      refine T_if1 (by decide +kernel) ?_
      refine T_up0 ((z_up_k (by decide)).trans ((z_up_k (by decide)).trans ((z_up_k (by decide)).trans ((z_up_k (by decide)).trans (by decide +kernel))))) ?_
      refine T_rI ?_
      refine T_let 1 (by decide +kernel) ?_
      refine T_if1 (by decide) ?_
      refine T_let p1 q1 ?_
      refine T_if1 (by decide +kernel) ?_
      refine T_bI ?_
      refine T_of (fX12_more_.eq_1 ..) ?_
      refine T_if1 (by decide +kernel) ?_
      refine T_up0 ((z_up_k (by decide)).trans ((z_up_k (by decide)).trans ((z_up_k (by decide)).trans ((z_up_k (by decide)).trans (by decide +kernel))))) ?_
      refine T_if1 (by decide +kernel) ?_
      refine T_let 0 ((z_up_k (by decide)).trans ((z_up_k (by decide)).trans ((z_up_k (by decide)).trans ((z_up_k (by decide)).trans (by decide +kernel))))) ?_
      refine T_bI ?_
      refine T_of (fX12_in.eq_1 ..) ?_
      refine T_if0 (by omega) ?_
      refine T_if0 (by omega) ?_
      refine T_of (fX12_in_J15.eq_1 ..) ?_
      refine T_if1 (by decide) ?_
      refine T_rI ?_
      refine T_if1 (by decide) ?_
      refine T_of (fX12_more__J23.eq_1 ..) ?_
      refine T_if1 (by decide +kernel) ?_
      refine T_bI ?_
      refine T_of (fX12_bad.eq_1 ..) ?_
      refine T_if1 (by decide) ?_
      refine T_of (fX12_bad_J26.eq_1 ..) ?_
      refine T_if1 (by decide +kernel) ?_
      refine T_let 0 ((z_up_k (by decide)).trans ((z_up_k (by decide)).trans ((z_up_k (by decide)).trans ((z_up_k (by decide)).trans (by decide +kernel))))) ?_
      refine T_if1 (by decide) ?_
      refine T_of (fX12_bad_J38.eq_1 ..) ?_
      refine T_if1 (by decide) ?_
      refine T_rI ?_
      refine T_if1 (by decide) ?_
      refine T_if1 (by decide +kernel) ?_
      refine T_bN ?_
      refine T_of (e_copies_0_13 ((((z_ZC0.up (by decide)).up (by decide)).up (by decide)).up (by decide))) ?_
      refine T_rN ?_
      refine T_if1 (by decide +kernel) ?_
      refine T_bI ?_
      refine T_of (fX12_reads.eq_1 ..) ?_
      refine T_if1 (by decide +kernel) ?_
      refine T_up0 ((z_up_k (by decide)).trans ((z_up_k (by decide)).trans ((z_up_k (by decide)).trans ((z_up_k (by decide)).trans (by decide +kernel))))) ?_
      refine T_if1 (by decide +kernel) ?_
      refine T_up ?_
      refine T_if1 (by decide +kernel) ?_
      refine T_up0 ((z_up_j (by decide)).trans ((z_up_k (by decide)).trans ((z_up_k (by decide)).trans ((z_up_k (by decide)).trans ((z_up_k (by decide)).trans (by decide +kernel)))))) ?_
      refine T_if1 (by decide +kernel) ?_
      refine T_up0 ((z_up_j (by decide)).trans ((z_up_k (by decide)).trans ((z_up_k (by decide)).trans ((z_up_k (by decide)).trans ((z_up_k (by decide)).trans (by decide +kernel)))))) ?_
      refine T_if1 (by decide +kernel) ?_
      refine T_up ?_
      refine T_of (fX12_reads_L25.eq_2 ..) ?_
      refine T_if1 (by decide +kernel) ?_
      refine T_bI ?_
      refine T_of (fX12_fine.eq_1 ..) ?_
      refine T_if1 (by decide +kernel) ?_
      refine T_let 0 ((z_up_j (by decide)).trans ((z_up_j (by decide)).trans ((z_up_k (by decide)).trans ((z_up_k (by decide)).trans ((z_up_k (by decide)).trans ((z_up_k (by decide)).trans (by decide +kernel))))))) ?_
      refine T_if0 (by decide) ?_
      refine T_of (fX12_fine_J12.eq_1 ..) ?_
      refine T_if1 (by decide) ?_
      refine T_rI ?_
      refine T_if0 (by decide) ?_
      refine T_if1 (by decide +kernel) ?_
      refine T_let 0 ((z_up_j (by decide)).trans ((z_up_j (by decide)).trans ((z_up_k (by decide)).trans ((z_up_k (by decide)).trans ((z_up_k (by decide)).trans ((z_up_k (by decide)).trans (by decide +kernel))))))) ?_
      refine T_if1 (by decide +kernel) ?_
      refine T_let p1 ((z_up_j (by decide)).trans z_up_s) ?_
      refine T_if1 (by omega) ?_
      refine T_of (fX12_reads_J50.eq_1 ..) ?_
      refine T_if1 (by decide +kernel) ?_
      refine T_let (-1) z_up_s ?_
      refine T_if1 (by decide +kernel) ?_
      refine T_up0 ((z_up_j (by decide)).trans ((z_up_j (by decide)).trans ((z_up_k (by decide)).trans ((z_up_k (by decide)).trans ((z_up_k (by decide)).trans ((z_up_k (by decide)).trans (by decide +kernel))))))) ?_
      refine T_if1 (by decide +kernel) ?_
      refine T_bI ?_
      refine T_of (fX12_fine.eq_1 ..) ?_
      refine T_if1 (by decide +kernel) ?_
      refine T_let 0 ((z_up_j (by decide)).trans ((z_up_j (by decide)).trans ((z_up_k (by decide)).trans ((z_up_k (by decide)).trans ((z_up_k (by decide)).trans ((z_up_k (by decide)).trans (by decide +kernel))))))) ?_
      refine T_if0 (by decide) ?_
      refine T_of (fX12_fine_J12.eq_1 ..) ?_
      refine T_if1 (by decide) ?_
      refine T_rI ?_
      refine T_if1 (by decide) ?_
      refine T_if1 (by decide +kernel) ?_
      refine T_bN ?_
      refine T_of (fX12_stands.eq_1 ..) ?_
      refine T_if1 (by decide +kernel) ?_
      refine T_let 0 ((z_up_j (by decide)).trans ((z_up_j (by decide)).trans ((z_up_k (by decide)).trans ((z_up_k (by decide)).trans ((z_up_k (by decide)).trans ((z_up_k (by decide)).trans (by decide +kernel))))))) ?_
      refine T_if1 (by decide) ?_
      refine T_of (fX12_stands_J41.eq_1 ..) ?_
      refine T_if1 (by decide +kernel) ?_
      refine T_let 0 ((z_up_j (by decide)).trans ((z_up_j (by decide)).trans ((z_up_k (by decide)).trans ((z_up_k (by decide)).trans ((z_up_k (by decide)).trans ((z_up_k (by decide)).trans (by decide +kernel))))))) ?_
      refine T_let 1 (by decide +kernel) ?_
      refine T_if1 (by decide +kernel) ?_
      refine T_up ?_
      refine T_if1 (by decide +kernel) ?_
      refine T_let 1 z_up_s ?_
      refine T_if1 (by decide +kernel) ?_
      refine T_bN ?_
      refine T_of (e_copies_0_1 (((((((z_ZC0.up (by decide)).up (by decide)).up (by decide)).up (by decide)).up (by decide)).up (by decide)).up (by decide))) ?_
      refine T_rN ?_
      refine T_if1 (by decide +kernel) ?_
      refine T_bN ?_
      refine T_of (e_copies_13_0 (((((((z_ZC0.up (by decide)).up (by decide)).up (by decide)).up (by decide)).up (by decide)).up (by decide)).up (by decide))) ?_
      refine T_rN ?_
      refine T_if1 (by decide +kernel) ?_
      refine T_bN ?_
      refine T_of (fX12_laysUnits.eq_1 ..) ?_
      refine T_if1 (by decide +kernel) ?_
      refine T_up0 ((z_up_j (by decide)).trans ((z_up_j (by decide)).trans ((z_up_j (by decide)).trans ((z_up_k (by decide)).trans ((z_up_k (by decide)).trans ((z_up_k (by decide)).trans ((z_up_k (by decide)).trans (by decide +kernel)))))))) ?_
      refine T_of (fX12_laysUnits_L7.eq_2 ..) ?_
      refine T_if1 (by decide +kernel) ?_
      refine T_let 315 (by decide +kernel) ?_
      refine T_if1 (by decide +kernel) ?_
      refine T_let 316 (by decide +kernel) ?_
      refine T_if1 (by decide +kernel) ?_
      refine T_let 0 ((z_up_k (by decide)).trans ((z_up_k (by decide)).trans ((z_up_k (by decide)).trans ((z_up_k (by decide)).trans ((z_up_k (by decide)).trans ((z_up_k (by decide)).trans ((z_up_k (by decide)).trans (by decide +kernel)))))))) ?_
      refine T_if1 (by decide) ?_
      refine T_if1 (by decide +kernel) ?_
      refine T_up0 ((z_up_j (by decide)).trans ((z_up_j (by decide)).trans ((z_up_j (by decide)).trans ((z_up_k (by decide)).trans ((z_up_k (by decide)).trans ((z_up_k (by decide)).trans ((z_up_k (by decide)).trans (by decide +kernel)))))))) ?_
      refine T_rN ?_
      refine T_rN ?_
      refine T_if1 (by decide +kernel) ?_
      refine T_let 0 ((z_up_j (by decide)).trans ((z_up_j (by decide)).trans ((z_up_j (by decide)).trans ((z_up_k (by decide)).trans ((z_up_k (by decide)).trans ((z_up_k (by decide)).trans ((z_up_k (by decide)).trans (by decide +kernel)))))))) ?_
      refine T_rI ?_
      refine T_rI ?_
      refine T_if1 (by decide +kernel) ?_
      refine T_bI ?_
      refine T_of (fX12_thrown.eq_1 ..) ?_
      refine T_if1 (by decide +kernel) ?_
      refine T_let 0 ((z_up_j (by decide)).trans ((z_up_j (by decide)).trans ((z_up_j (by decide)).trans ((z_up_k (by decide)).trans ((z_up_k (by decide)).trans ((z_up_k (by decide)).trans ((z_up_k (by decide)).trans (by decide +kernel)))))))) ?_
      refine T_rI ?_
      refine T_if1 (by decide) ?_
      refine T_if0 (by decide) ?_
      refine T_if1 (by decide +kernel) ?_
      refine T_let 0 ((z_up_k (by decide)).trans ((z_up_k (by decide)).trans ((z_up_k (by decide)).trans ((z_up_k (by decide)).trans ((z_up_k (by decide)).trans ((z_up_k (by decide)).trans ((z_up_k (by decide)).trans (by decide +kernel)))))))) ?_
      refine T_let 0 (by decide +kernel) ?_
      refine T_if1 (by decide) ?_
      refine T_of (fL_law_J370.eq_1 ..) ?_
      refine T_of (fL_law_J2073.eq_1 ..) ?_
      refine T_let 6 (by decide +kernel) ?_
      exact hr _
    · refine T_of (fX11_needWithin_J10.eq_1 ..) ?_
      refine T_if1 (by decide +kernel) ?_
      refine T_let 0 (by decide +kernel) ?_
      refine T_let 1 (by decide +kernel) ?_
      refine T_if1 (by decide +kernel) ?_
      refine T_up ?_
      refine T_xN ?_
      refine T_x1I ?_
      refine T_rI ?_
      refine T_let 1 (by decide +kernel) ?_
      refine T_if1 (by decide) ?_
      refine T_let p1 q1 ?_
      refine T_if1 (by decide +kernel) ?_
      refine T_bI ?_
      refine T_of (fX12_more_.eq_1 ..) ?_
      refine T_if1 (by decide +kernel) ?_
      refine T_up0 ((z_up_k (by decide)).trans (by decide +kernel)) ?_
      refine T_if1 (by decide +kernel) ?_
      refine T_let 0 ((z_up_k (by decide)).trans (by decide +kernel)) ?_
      refine T_bI ?_
      refine T_of (fX12_in.eq_1 ..) ?_
      refine T_if0 (by omega) ?_
      refine T_if1 (by omega) ?_
      refine T_of (fX12_in_J14.eq_1 ..) ?_
      refine T_of (fX12_in_J15.eq_1 ..) ?_
      refine T_if1 (by decide) ?_
      refine T_rI ?_
      refine T_if0 (by decide) ?_
      refine T_of (fX12_more__J23.eq_1 ..) ?_
      refine T_if1 (by decide +kernel) ?_
      refine T_bI ?_
      refine T_of (fX12_bad.eq_1 ..) ?_
      refine T_if0 (by decide) ?_
      refine T_if1 (by decide +kernel) ?_
      refine T_let 0 ((z_up_k (by decide)).trans (by decide +kernel)) ?_
      refine T_if0 (by decide) ?_
      refine T_if1 (by decide +kernel) ?_
      refine T_up ?_
      refine T_if1 (by decide +kernel) ?_
      refine T_let 310 (by decide +kernel) ?_
      refine T_if1 (by decide +kernel) ?_
      refine T_let 0 ((z_up_k (by decide)).trans ((z_up_k (by decide)).trans (by decide +kernel))) ?_
      refine T_let 1 (by decide +kernel) ?_
      refine T_if1 (by decide +kernel) ?_
      refine T_up ?_
      refine T_of (fX12_bad_J26.eq_1 ..) ?_
      refine T_if1 (by decide +kernel) ?_
      refine T_let 1 ((z_up_k (by decide)).trans z_up_s) ?_
      refine T_if0 (by decide) ?_
      refine T_of (fX12_bad_J38.eq_1 ..) ?_
      refine T_if1 (by decide) ?_
      refine T_rI ?_
      refine T_if0 (by decide) ?_
      refine T_rI ?_
      refine T_if1 (by decide +kernel) ?_
      refine T_bI ?_
      refine T_of (fX12_thrown.eq_1 ..) ?_
      refine T_if1 (by decide +kernel) ?_
      refine T_let 1 ((z_up_k (by decide)).trans z_up_s) ?_
      refine T_rI ?_
      refine T_if1 (by decide) ?_
      refine T_if1 (by decide) ?_
      refine T_of (fL_law_J370.eq_1 ..) ?_
      refine T_of (fL_law_J2073.eq_1 ..) ?_
      refine T_let 6 (by decide +kernel) ?_
      exact hr _
theorem c_373 {xs : Nat → Int32} {r : z_M → Int → z_O} {k : z_M → z_O} {P : z_V → z_M → Prop} {p1 p2 p3 p4 p5 : Int} (q1 : Int32.toInt (xs 1) = p1) (q2 : Int32.toInt (xs 2) = p2) (q3 : Int32.toInt (xs 3) = p3) (q4 : Int32.toInt (xs 4) = p4) (q5 : Int32.toInt (xs 5) = p5) (hr : ∀ s, z_T (r s 6) P) : z_T (fL_law_J373 1000 6 xs z_s0 1 309 7658 0 r k) P := by
  refine T_of (fL_law_J373.eq_1 ..) ?_
  refine T_if1 (by decide +kernel) ?_
  refine T_bI ?_
  refine T_of (fX11_fault.eq_1 ..) ?_
  refine T_if1 (by decide +kernel) ?_
  refine T_let (-1) (by decide +kernel) ?_
  refine T_rI ?_
  refine T_if1 (by decide +kernel) ?_
  refine T_bI ?_
  refine T_of (fX12_fault.eq_1 ..) ?_
  refine T_if1 (by decide +kernel) ?_
  refine T_up0 (by decide +kernel) ?_
  refine T_if1 (by decide +kernel) ?_
  refine T_let (-1) (by decide +kernel) ?_
  refine T_rI ?_
  refine T_if1 (by decide) ?_
  refine T_of (fL_law_J2073.eq_1 ..) ?_
  refine T_let 6 (by decide +kernel) ?_
  exact hr _
