/-! THE LAW over one call: the pure side -/
theorem law_end {xs : Nat → Int32} (s : z_M) : z_T (fL_law_L23 1000 6 xs 1 309 7658 1 s 6 z_kr) (fun v _ => v = vI 1) := by
  refine T_of (fL_law_L23.eq_2 ..) ?_
  refine T_let 0 (by decide +kernel) ?_
  refine T_if1 (by decide) ?_
  refine T_of (z_kr.eq_1 ..) ?_
  refine T_if1 (by decide) ?_
  exact T_ret rfl
theorem law_pure (L : Nat) (hL : L ≤ 6) (xs : Nat → Int32) : ∃ (fu F : Nat) (s' : z_M), F ≤ 3 ∧ fL_law_L23 fu L xs 1 309 7658 F z_s0 0 z_kr = some (vI 1, s') := by
  by_cases h6 : L < 6
  · have h : z_T (fL_law_L23 1000 L xs 1 309 7658 1 z_s0 0 z_kr) (fun v _ => v = vI 1) := by
      refine T_of (fL_law_L23.eq_2 ..) ?_
      refine T_let ((L : Int) - 6) (z_wid (by unfold z_I; omega)) ?_
      refine T_if1 (by omega) ?_
      refine T_of (z_kr.eq_1 ..) ?_
      refine T_if1 (by decide) ?_
      exact T_ret rfl
    obtain ⟨v, s, e, rfl⟩ := h
    exact ⟨1000, 1, s, by decide, e⟩
  · have e6 : L = 6 := by omega
    subst e6
    have h : z_T (fL_law_L23 1000 6 xs 1 309 7658 2 z_s0 0 z_kr) (fun v _ => v = vI 1) := by
      refine T_of (fL_law_L23.eq_2 ..) ?_
      refine T_let 0 (by decide +kernel) ?_
      refine T_if0 (by decide) ?_
      refine T_if1 (by decide) ?_
      refine T_letg (fun x2 => ?_)
      refine T_letg (fun x3 => ?_)
      refine T_ite (fun _ => c_188 rfl rfl rfl rfl rfl law_end) (fun _ => ?_)
      refine T_ite (fun _ => c_261 rfl rfl rfl rfl rfl law_end) (fun _ => ?_)
      refine T_ite (fun _ => c_317 rfl rfl rfl rfl rfl law_end) (fun _ => ?_)
      refine T_ite (fun _ => c_373 rfl rfl rfl rfl rfl law_end) (fun _ => ?_)
      refine T_ite (fun _ => c_386 rfl rfl rfl rfl rfl law_end) (fun _ => ?_)
      refine T_ite (fun _ => c_454 rfl rfl rfl rfl rfl law_end) (fun _ => ?_)
      refine T_ite (fun _ => c_522 rfl rfl rfl rfl rfl law_end) (fun _ => ?_)
      refine T_ite (fun _ => c_535 rfl rfl rfl rfl rfl law_end) (fun _ => ?_)
      refine T_ite (fun _ => c_590 rfl rfl rfl rfl rfl law_end) (fun _ => ?_)
      refine T_ite (fun _ => c_658 rfl rfl rfl rfl rfl law_end) (fun _ => ?_)
      refine T_ite (fun _ => c_726 rfl rfl rfl rfl rfl law_end) (fun _ => ?_)
      refine T_ite (fun _ => c_794 rfl rfl rfl rfl rfl law_end) (fun _ => ?_)
      refine T_ite (fun _ => c_862 rfl rfl rfl rfl rfl law_end) (fun _ => ?_)
      refine T_ite (fun _ => c_954 rfl rfl rfl rfl rfl law_end) (fun _ => ?_)
      refine T_ite (fun _ => c_1022 rfl rfl rfl rfl rfl law_end) (fun _ => ?_)
      refine T_ite (fun _ => c_1090 rfl rfl rfl rfl rfl law_end) (fun _ => ?_)
      refine T_ite (fun _ => c_1153 rfl rfl rfl rfl rfl law_end) (fun _ => ?_)
      refine T_ite (fun _ => c_1221 rfl rfl rfl rfl rfl law_end) (fun _ => ?_)
      refine T_ite (fun _ => c_1289 rfl rfl rfl rfl rfl law_end) (fun _ => ?_)
      refine T_ite (fun _ => c_1345 rfl rfl rfl rfl rfl law_end) (fun _ => ?_)
      refine T_ite (fun _ => c_1359 rfl rfl rfl rfl rfl law_end) (fun _ => ?_)
      refine T_ite (fun _ => c_1415 rfl rfl rfl rfl rfl law_end) (fun _ => ?_)
      refine T_ite (fun _ => c_1428 rfl rfl rfl rfl rfl law_end) (fun _ => ?_)
      refine T_ite (fun _ => c_1484 rfl rfl rfl rfl rfl law_end) (fun _ => ?_)
      refine T_ite (fun _ => c_1540 rfl rfl rfl rfl rfl law_end) (fun _ => ?_)
      refine T_ite (fun _ => c_1596 rfl rfl rfl rfl rfl law_end) (fun _ => ?_)
      refine T_ite (fun _ => c_1676 rfl rfl rfl rfl rfl law_end) (fun _ => ?_)
      refine T_ite (fun _ => c_1732 rfl rfl rfl rfl rfl law_end) (fun _ => ?_)
      refine T_ite (fun _ => c_1788 rfl rfl rfl rfl rfl law_end) (fun _ => ?_)
      refine T_ite (fun _ => c_1856 rfl rfl rfl rfl rfl law_end) (fun _ => ?_)
      refine T_ite (fun _ => c_1912 rfl rfl rfl rfl rfl law_end) (fun _ => ?_)
      refine T_ite (fun _ => c_1992 rfl rfl rfl rfl rfl law_end) (fun _ => ?_)
      refine T_ite (fun _ => c_2048 rfl rfl rfl rfl rfl law_end) (fun _ => ?_)
      refine T_of (fL_law_J2073.eq_1 ..) ?_
      refine T_let 6 (by decide +kernel) ?_
      exact law_end z_s0
    obtain ⟨v, s, e, rfl⟩ := h
    exact ⟨1000, 2, s, by decide, e⟩
