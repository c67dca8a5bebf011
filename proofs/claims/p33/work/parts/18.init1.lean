/-! the constructors, by program (wip/tool/mkinit.py) -/
theorem i_X9_6 {l : Launch} {K : z_K} {σ : z_M} (hst : l.stackTraces = false) (hz : z_zs σ 6) : z_C l K mX9_init 2 35 12 1206 [vR 6] 6 (z_pd [(6, 63), (1, 4092)]) σ (z_IQ 18 (z_pd [(1, 4092)]) σ) := by
  refine P_of (lv := [vR 6]) hst z_mX9_init rfl ?_ (Nat.le_of_ble_eq_true rfl) rfl
  refine V_aload_n (v := vR 6) (pc := 0) dX9_init_0 rfl ?_ (Or.inl rfl)
  refine V_obj (st := []) (pc := 1) dX9_init_1 z_wX9_3 z_obj1 z_obj2 (by decide) (Nat.le_of_ble_eq_true rfl) (Nat.le_of_ble_eq_true rfl) ?_
  refine V_aload_n (v := vR 6) (pc := 4) dX9_init_4 rfl ?_ (Or.inl rfl)
  refine P_new (k := 7) (mk := 1) (bc2 := 11) (bs2 := 1205) (n2 := 7) (pc := 5) dX9_init_5 z_CLX7 z_wX9_9 z_inX7 z_itX7 (by decide +kernel) rfl rfl (by decide +kernel) (by decide) (hz.mono (m := 6) (Nat.le_of_ble_eq_true rfl)) (z_mk (by decide) (by decide +kernel)) ?_
  refine V_dup (a := vR 7) (pc := 8) dX9_init_8 ?_ (by decide)
  refine V_sipush (x := 200) (pc := 9) dX9_init_9 (by decide) ?_
  refine P_callI (as := [vI 200]) (st := [vR 7, vR 6]) (k := 7) (bc2 := 10) (bs2 := 1005) (pc := 12) dX9_init_12 z_mX7_init z_iX7_init z_wX9_11 (i_X7 (σ := σ) (P := [(6, 63), (1, 4092)]) (n := 7) (n2 := 8) (sl := 200) hst (hz.mono (m := 7) (Nat.le_of_ble_eq_true rfl)) (by decide) (by decide) (by decide +kernel) rfl (by decide +kernel) (by decide +kernel) (by decide) rfl (by decide +kernel) (by decide +kernel)) rfl (by decide) ⟨(Nat.le_of_ble_eq_true rfl), (Nat.le_of_ble_eq_true rfl), (by decide +kernel), (by decide +kernel), (Nat.le_of_ble_eq_true rfl)⟩ ?_
  refine P_putR (j := 0) (m' := 62) (P' := [(6, 62), (1, 4092)]) (pc := 15) dX9_init_15 z_CLX9 (by decide) z_wX9_14 rfl rfl rfl (by decide) (by decide) (by decide) (by decide +kernel) (by decide +kernel) z_h0 (z_clr (by decide +kernel) (by decide +kernel)) ?_
  refine V_aload_n (v := vR 6) (pc := 18) dX9_init_18 rfl ?_ (Or.inl rfl)
  refine P_new (k := 9) (mk := 1) (bc2 := 9) (bs2 := 1004) (n2 := 9) (pc := 19) dX9_init_19 z_CLX7 z_wX9_9 z_inX7 z_itX7 (by decide +kernel) rfl rfl (by decide +kernel) (by decide) (hz.mono (m := 8) (Nat.le_of_ble_eq_true rfl)) (z_mk (by decide) (by decide +kernel)) ?_
  refine V_dup (a := vR 9) (pc := 22) dX9_init_22 ?_ (by decide)
  refine V_sipush (x := 200) (pc := 23) dX9_init_23 (by decide) ?_
  refine P_callI (as := [vI 200]) (st := [vR 9, vR 6]) (k := 9) (bc2 := 8) (bs2 := 804) (pc := 26) dX9_init_26 z_mX7_init z_iX7_init z_wX9_11 (i_X7 (σ := σ) (P := [(6, 62), (1, 4092)]) (n := 9) (n2 := 10) (sl := 200) hst (hz.mono (m := 9) (Nat.le_of_ble_eq_true rfl)) (by decide) (by decide) (by decide +kernel) rfl (by decide +kernel) (by decide +kernel) (by decide) rfl (by decide +kernel) (by decide +kernel)) rfl (by decide) ⟨(Nat.le_of_ble_eq_true rfl), (Nat.le_of_ble_eq_true rfl), (by decide +kernel), (by decide +kernel), (Nat.le_of_ble_eq_true rfl)⟩ ?_
  refine P_putR (j := 1) (m' := 60) (P' := [(6, 60), (1, 4092)]) (pc := 29) dX9_init_29 z_CLX9 (by decide) z_wX9_20 rfl rfl rfl (by decide) (by decide) (by decide) (by decide +kernel) (by decide +kernel) z_h0 (z_clr (by decide +kernel) (by decide +kernel)) ?_
  refine V_aload_n (v := vR 6) (pc := 32) dX9_init_32 rfl ?_ (Or.inl rfl)
  refine P_new (k := 11) (mk := 1) (bc2 := 7) (bs2 := 803) (n2 := 11) (pc := 33) dX9_init_33 z_CLX7 z_wX9_9 z_inX7 z_itX7 (by decide +kernel) rfl rfl (by decide +kernel) (by decide) (hz.mono (m := 10) (Nat.le_of_ble_eq_true rfl)) (z_mk (by decide) (by decide +kernel)) ?_
  refine V_dup (a := vR 11) (pc := 36) dX9_init_36 ?_ (by decide)
  refine V_sipush (x := 200) (pc := 37) dX9_init_37 (by decide) ?_
  refine P_callI (as := [vI 200]) (st := [vR 11, vR 6]) (k := 11) (bc2 := 6) (bs2 := 603) (pc := 40) dX9_init_40 z_mX7_init z_iX7_init z_wX9_11 (i_X7 (σ := σ) (P := [(6, 60), (1, 4092)]) (n := 11) (n2 := 12) (sl := 200) hst (hz.mono (m := 11) (Nat.le_of_ble_eq_true rfl)) (by decide) (by decide) (by decide +kernel) rfl (by decide +kernel) (by decide +kernel) (by decide) rfl (by decide +kernel) (by decide +kernel)) rfl (by decide) ⟨(Nat.le_of_ble_eq_true rfl), (Nat.le_of_ble_eq_true rfl), (by decide +kernel), (by decide +kernel), (Nat.le_of_ble_eq_true rfl)⟩ ?_
  refine P_putR (j := 2) (m' := 56) (P' := [(6, 56), (1, 4092)]) (pc := 43) dX9_init_43 z_CLX9 (by decide) z_wX9_23 rfl rfl rfl (by decide) (by decide) (by decide) (by decide +kernel) (by decide +kernel) z_h0 (z_clr (by decide +kernel) (by decide +kernel)) ?_
  refine V_aload_n (v := vR 6) (pc := 46) dX9_init_46 rfl ?_ (Or.inl rfl)
  refine P_new (k := 13) (mk := 1) (bc2 := 5) (bs2 := 602) (n2 := 13) (pc := 47) dX9_init_47 z_CLX7 z_wX9_9 z_inX7 z_itX7 (by decide +kernel) rfl rfl (by decide +kernel) (by decide) (hz.mono (m := 12) (Nat.le_of_ble_eq_true rfl)) (z_mk (by decide) (by decide +kernel)) ?_
  refine V_dup (a := vR 13) (pc := 50) dX9_init_50 ?_ (by decide)
  refine V_sipush (x := 200) (pc := 51) dX9_init_51 (by decide) ?_
  refine P_callI (as := [vI 200]) (st := [vR 13, vR 6]) (k := 13) (bc2 := 4) (bs2 := 402) (pc := 54) dX9_init_54 z_mX7_init z_iX7_init z_wX9_11 (i_X7 (σ := σ) (P := [(6, 56), (1, 4092)]) (n := 13) (n2 := 14) (sl := 200) hst (hz.mono (m := 13) (Nat.le_of_ble_eq_true rfl)) (by decide) (by decide) (by decide +kernel) rfl (by decide +kernel) (by decide +kernel) (by decide) rfl (by decide +kernel) (by decide +kernel)) rfl (by decide) ⟨(Nat.le_of_ble_eq_true rfl), (Nat.le_of_ble_eq_true rfl), (by decide +kernel), (by decide +kernel), (Nat.le_of_ble_eq_true rfl)⟩ ?_
  refine P_putR (j := 3) (m' := 48) (P' := [(6, 48), (1, 4092)]) (pc := 57) dX9_init_57 z_CLX9 (by decide) z_wX9_26 rfl rfl rfl (by decide) (by decide) (by decide) (by decide +kernel) (by decide +kernel) z_h0 (z_clr (by decide +kernel) (by decide +kernel)) ?_
  refine V_aload_n (v := vR 6) (pc := 60) dX9_init_60 rfl ?_ (Or.inl rfl)
  refine P_new (k := 15) (mk := 1) (bc2 := 3) (bs2 := 401) (n2 := 15) (pc := 61) dX9_init_61 z_CLX4 z_wX9_29 z_inX4 z_itX4 (by decide +kernel) rfl rfl (by decide +kernel) (by decide) (hz.mono (m := 14) (Nat.le_of_ble_eq_true rfl)) (z_mk (by decide) (by decide +kernel)) ?_
  refine V_dup (a := vR 15) (pc := 64) dX9_init_64 ?_ (by decide)
  refine V_sipush (x := 200) (pc := 65) dX9_init_65 (by decide) ?_
  refine P_callI (as := [vI 200]) (st := [vR 15, vR 6]) (k := 15) (bc2 := 2) (bs2 := 201) (pc := 68) dX9_init_68 z_mX4_init z_iX4_init z_wX9_31 (i_X4 (σ := σ) (P := [(6, 48), (1, 4092)]) (n := 15) (n2 := 16) (sl := 200) hst (hz.mono (m := 15) (Nat.le_of_ble_eq_true rfl)) (by decide) (by decide) (by decide +kernel) rfl (by decide +kernel) (by decide +kernel) (by decide) rfl (by decide +kernel) (by decide +kernel)) rfl (by decide) ⟨(Nat.le_of_ble_eq_true rfl), (Nat.le_of_ble_eq_true rfl), (by decide +kernel), (by decide +kernel), (Nat.le_of_ble_eq_true rfl)⟩ ?_
  refine P_putR (j := 4) (m' := 32) (P' := [(6, 32), (1, 4092)]) (pc := 71) dX9_init_71 z_CLX9 (by decide) z_wX9_32 rfl rfl rfl (by decide) (by decide) (by decide) (by decide +kernel) (by decide +kernel) z_h0 (z_clr (by decide +kernel) (by decide +kernel)) ?_
  refine V_aload_n (v := vR 6) (pc := 74) dX9_init_74 rfl ?_ (Or.inl rfl)
  refine P_new (k := 17) (mk := 1) (bc2 := 1) (bs2 := 200) (n2 := 17) (pc := 75) dX9_init_75 z_CLX4 z_wX9_29 z_inX4 z_itX4 (by decide +kernel) rfl rfl (by decide +kernel) (by decide) (hz.mono (m := 16) (Nat.le_of_ble_eq_true rfl)) (z_mk (by decide) (by decide +kernel)) ?_
  refine V_dup (a := vR 17) (pc := 78) dX9_init_78 ?_ (by decide)
  refine V_sipush (x := 200) (pc := 79) dX9_init_79 (by decide) ?_
  refine P_callI (as := [vI 200]) (st := [vR 17, vR 6]) (k := 17) (bc2 := 0) (bs2 := 0) (pc := 82) dX9_init_82 z_mX4_init z_iX4_init z_wX9_31 (i_X4 (σ := σ) (P := [(6, 32), (1, 4092)]) (n := 17) (n2 := 18) (sl := 200) hst (hz.mono (m := 17) (Nat.le_of_ble_eq_true rfl)) (by decide) (by decide) (by decide +kernel) rfl (by decide +kernel) (by decide +kernel) (by decide) rfl (by decide +kernel) (by decide +kernel)) rfl (by decide) ⟨(Nat.le_of_ble_eq_true rfl), (Nat.le_of_ble_eq_true rfl), (by decide +kernel), (by decide +kernel), (Nat.le_of_ble_eq_true rfl)⟩ ?_
  refine P_putR (j := 5) (m' := 0) (P' := [(6, 0), (1, 4092)]) (pc := 85) dX9_init_85 z_CLX9 (by decide) z_wX9_36 rfl rfl rfl (by decide) (by decide) (by decide) (by decide +kernel) (by decide +kernel) z_h0 (z_clr (by decide +kernel) (by decide +kernel)) ?_
  refine P_pop (by decide +kernel) ?_
  exact P_ret (pc := 88) dX9_init_88 rfl
theorem i_X9_19 {l : Launch} {K : z_K} {σ : z_M} (hst : l.stackTraces = false) (hz : z_zs σ 19) : z_C l K mX9_init 2 35 12 1206 [vR 19] 19 (z_pd [(19, 63), (1, 4088)]) σ (z_IQ 31 (z_pd [(1, 4088)]) σ) := by
  refine P_of (lv := [vR 19]) hst z_mX9_init rfl ?_ (Nat.le_of_ble_eq_true rfl) rfl
  refine V_aload_n (v := vR 19) (pc := 0) dX9_init_0 rfl ?_ (Or.inl rfl)
  refine V_obj (st := []) (pc := 1) dX9_init_1 z_wX9_3 z_obj1 z_obj2 (by decide) (Nat.le_of_ble_eq_true rfl) (Nat.le_of_ble_eq_true rfl) ?_
  refine V_aload_n (v := vR 19) (pc := 4) dX9_init_4 rfl ?_ (Or.inl rfl)
  refine P_new (k := 20) (mk := 1) (bc2 := 11) (bs2 := 1205) (n2 := 20) (pc := 5) dX9_init_5 z_CLX7 z_wX9_9 z_inX7 z_itX7 (by decide +kernel) rfl rfl (by decide +kernel) (by decide) (hz.mono (m := 19) (Nat.le_of_ble_eq_true rfl)) (z_mk (by decide) (by decide +kernel)) ?_
  refine V_dup (a := vR 20) (pc := 8) dX9_init_8 ?_ (by decide)
  refine V_sipush (x := 200) (pc := 9) dX9_init_9 (by decide) ?_
  refine P_callI (as := [vI 200]) (st := [vR 20, vR 19]) (k := 20) (bc2 := 10) (bs2 := 1005) (pc := 12) dX9_init_12 z_mX7_init z_iX7_init z_wX9_11 (i_X7 (σ := σ) (P := [(19, 63), (1, 4088)]) (n := 20) (n2 := 21) (sl := 200) hst (hz.mono (m := 20) (Nat.le_of_ble_eq_true rfl)) (by decide) (by decide) (by decide +kernel) rfl (by decide +kernel) (by decide +kernel) (by decide) rfl (by decide +kernel) (by decide +kernel)) rfl (by decide) ⟨(Nat.le_of_ble_eq_true rfl), (Nat.le_of_ble_eq_true rfl), (by decide +kernel), (by decide +kernel), (Nat.le_of_ble_eq_true rfl)⟩ ?_
  refine P_putR (j := 0) (m' := 62) (P' := [(19, 62), (1, 4088)]) (pc := 15) dX9_init_15 z_CLX9 (by decide) z_wX9_14 rfl rfl rfl (by decide) (by decide) (by decide) (by decide +kernel) (by decide +kernel) z_h0 (z_clr (by decide +kernel) (by decide +kernel)) ?_
  refine V_aload_n (v := vR 19) (pc := 18) dX9_init_18 rfl ?_ (Or.inl rfl)
  refine P_new (k := 22) (mk := 1) (bc2 := 9) (bs2 := 1004) (n2 := 22) (pc := 19) dX9_init_19 z_CLX7 z_wX9_9 z_inX7 z_itX7 (by decide +kernel) rfl rfl (by decide +kernel) (by decide) (hz.mono (m := 21) (Nat.le_of_ble_eq_true rfl)) (z_mk (by decide) (by decide +kernel)) ?_
  refine V_dup (a := vR 22) (pc := 22) dX9_init_22 ?_ (by decide)
  refine V_sipush (x := 200) (pc := 23) dX9_init_23 (by decide) ?_
  refine P_callI (as := [vI 200]) (st := [vR 22, vR 19]) (k := 22) (bc2 := 8) (bs2 := 804) (pc := 26) dX9_init_26 z_mX7_init z_iX7_init z_wX9_11 (i_X7 (σ := σ) (P := [(19, 62), (1, 4088)]) (n := 22) (n2 := 23) (sl := 200) hst (hz.mono (m := 22) (Nat.le_of_ble_eq_true rfl)) (by decide) (by decide) (by decide +kernel) rfl (by decide +kernel) (by decide +kernel) (by decide) rfl (by decide +kernel) (by decide +kernel)) rfl (by decide) ⟨(Nat.le_of_ble_eq_true rfl), (Nat.le_of_ble_eq_true rfl), (by decide +kernel), (by decide +kernel), (Nat.le_of_ble_eq_true rfl)⟩ ?_
  refine P_putR (j := 1) (m' := 60) (P' := [(19, 60), (1, 4088)]) (pc := 29) dX9_init_29 z_CLX9 (by decide) z_wX9_20 rfl rfl rfl (by decide) (by decide) (by decide) (by decide +kernel) (by decide +kernel) z_h0 (z_clr (by decide +kernel) (by decide +kernel)) ?_
  refine V_aload_n (v := vR 19) (pc := 32) dX9_init_32 rfl ?_ (Or.inl rfl)
  refine P_new (k := 24) (mk := 1) (bc2 := 7) (bs2 := 803) (n2 := 24) (pc := 33) dX9_init_33 z_CLX7 z_wX9_9 z_inX7 z_itX7 (by decide +kernel) rfl rfl (by decide +kernel) (by decide) (hz.mono (m := 23) (Nat.le_of_ble_eq_true rfl)) (z_mk (by decide) (by decide +kernel)) ?_
  refine V_dup (a := vR 24) (pc := 36) dX9_init_36 ?_ (by decide)
  refine V_sipush (x := 200) (pc := 37) dX9_init_37 (by decide) ?_
  refine P_callI (as := [vI 200]) (st := [vR 24, vR 19]) (k := 24) (bc2 := 6) (bs2 := 603) (pc := 40) dX9_init_40 z_mX7_init z_iX7_init z_wX9_11 (i_X7 (σ := σ) (P := [(19, 60), (1, 4088)]) (n := 24) (n2 := 25) (sl := 200) hst (hz.mono (m := 24) (Nat.le_of_ble_eq_true rfl)) (by decide) (by decide) (by decide +kernel) rfl (by decide +kernel) (by decide +kernel) (by decide) rfl (by decide +kernel) (by decide +kernel)) rfl (by decide) ⟨(Nat.le_of_ble_eq_true rfl), (Nat.le_of_ble_eq_true rfl), (by decide +kernel), (by decide +kernel), (Nat.le_of_ble_eq_true rfl)⟩ ?_
  refine P_putR (j := 2) (m' := 56) (P' := [(19, 56), (1, 4088)]) (pc := 43) dX9_init_43 z_CLX9 (by decide) z_wX9_23 rfl rfl rfl (by decide) (by decide) (by decide) (by decide +kernel) (by decide +kernel) z_h0 (z_clr (by decide +kernel) (by decide +kernel)) ?_
  refine V_aload_n (v := vR 19) (pc := 46) dX9_init_46 rfl ?_ (Or.inl rfl)
  refine P_new (k := 26) (mk := 1) (bc2 := 5) (bs2 := 602) (n2 := 26) (pc := 47) dX9_init_47 z_CLX7 z_wX9_9 z_inX7 z_itX7 (by decide +kernel) rfl rfl (by decide +kernel) (by decide) (hz.mono (m := 25) (Nat.le_of_ble_eq_true rfl)) (z_mk (by decide) (by decide +kernel)) ?_
  refine V_dup (a := vR 26) (pc := 50) dX9_init_50 ?_ (by decide)
  refine V_sipush (x := 200) (pc := 51) dX9_init_51 (by decide) ?_
  refine P_callI (as := [vI 200]) (st := [vR 26, vR 19]) (k := 26) (bc2 := 4) (bs2 := 402) (pc := 54) dX9_init_54 z_mX7_init z_iX7_init z_wX9_11 (i_X7 (σ := σ) (P := [(19, 56), (1, 4088)]) (n := 26) (n2 := 27) (sl := 200) hst (hz.mono (m := 26) (Nat.le_of_ble_eq_true rfl)) (by decide) (by decide) (by decide +kernel) rfl (by decide +kernel) (by decide +kernel) (by decide) rfl (by decide +kernel) (by decide +kernel)) rfl (by decide) ⟨(Nat.le_of_ble_eq_true rfl), (Nat.le_of_ble_eq_true rfl), (by decide +kernel), (by decide +kernel), (Nat.le_of_ble_eq_true rfl)⟩ ?_
  refine P_putR (j := 3) (m' := 48) (P' := [(19, 48), (1, 4088)]) (pc := 57) dX9_init_57 z_CLX9 (by decide) z_wX9_26 rfl rfl rfl (by decide) (by decide) (by decide) (by decide +kernel) (by decide +kernel) z_h0 (z_clr (by decide +kernel) (by decide +kernel)) ?_
  refine V_aload_n (v := vR 19) (pc := 60) dX9_init_60 rfl ?_ (Or.inl rfl)
  refine P_new (k := 28) (mk := 1) (bc2 := 3) (bs2 := 401) (n2 := 28) (pc := 61) dX9_init_61 z_CLX4 z_wX9_29 z_inX4 z_itX4 (by decide +kernel) rfl rfl (by decide +kernel) (by decide) (hz.mono (m := 27) (Nat.le_of_ble_eq_true rfl)) (z_mk (by decide) (by decide +kernel)) ?_
  refine V_dup (a := vR 28) (pc := 64) dX9_init_64 ?_ (by decide)
  refine V_sipush (x := 200) (pc := 65) dX9_init_65 (by decide) ?_
  refine P_callI (as := [vI 200]) (st := [vR 28, vR 19]) (k := 28) (bc2 := 2) (bs2 := 201) (pc := 68) dX9_init_68 z_mX4_init z_iX4_init z_wX9_31 (i_X4 (σ := σ) (P := [(19, 48), (1, 4088)]) (n := 28) (n2 := 29) (sl := 200) hst (hz.mono (m := 28) (Nat.le_of_ble_eq_true rfl)) (by decide) (by decide) (by decide +kernel) rfl (by decide +kernel) (by decide +kernel) (by decide) rfl (by decide +kernel) (by decide +kernel)) rfl (by decide) ⟨(Nat.le_of_ble_eq_true rfl), (Nat.le_of_ble_eq_true rfl), (by decide +kernel), (by decide +kernel), (Nat.le_of_ble_eq_true rfl)⟩ ?_
  refine P_putR (j := 4) (m' := 32) (P' := [(19, 32), (1, 4088)]) (pc := 71) dX9_init_71 z_CLX9 (by decide) z_wX9_32 rfl rfl rfl (by decide) (by decide) (by decide) (by decide +kernel) (by decide +kernel) z_h0 (z_clr (by decide +kernel) (by decide +kernel)) ?_
  refine V_aload_n (v := vR 19) (pc := 74) dX9_init_74 rfl ?_ (Or.inl rfl)
  refine P_new (k := 30) (mk := 1) (bc2 := 1) (bs2 := 200) (n2 := 30) (pc := 75) dX9_init_75 z_CLX4 z_wX9_29 z_inX4 z_itX4 (by decide +kernel) rfl rfl (by decide +kernel) (by decide) (hz.mono (m := 29) (Nat.le_of_ble_eq_true rfl)) (z_mk (by decide) (by decide +kernel)) ?_
  refine V_dup (a := vR 30) (pc := 78) dX9_init_78 ?_ (by decide)
  refine V_sipush (x := 200) (pc := 79) dX9_init_79 (by decide) ?_
  refine P_callI (as := [vI 200]) (st := [vR 30, vR 19]) (k := 30) (bc2 := 0) (bs2 := 0) (pc := 82) dX9_init_82 z_mX4_init z_iX4_init z_wX9_31 (i_X4 (σ := σ) (P := [(19, 32), (1, 4088)]) (n := 30) (n2 := 31) (sl := 200) hst (hz.mono (m := 30) (Nat.le_of_ble_eq_true rfl)) (by decide) (by decide) (by decide +kernel) rfl (by decide +kernel) (by decide +kernel) (by decide) rfl (by decide +kernel) (by decide +kernel)) rfl (by decide) ⟨(Nat.le_of_ble_eq_true rfl), (Nat.le_of_ble_eq_true rfl), (by decide +kernel), (by decide +kernel), (Nat.le_of_ble_eq_true rfl)⟩ ?_
  refine P_putR (j := 5) (m' := 0) (P' := [(19, 0), (1, 4088)]) (pc := 85) dX9_init_85 z_CLX9 (by decide) z_wX9_36 rfl rfl rfl (by decide) (by decide) (by decide) (by decide +kernel) (by decide +kernel) z_h0 (z_clr (by decide +kernel) (by decide +kernel)) ?_
  refine P_pop (by decide +kernel) ?_
  exact P_ret (pc := 88) dX9_init_88 rfl
theorem i_X6_32 {l : Launch} {K : z_K} {σ : z_M} (hst : l.stackTraces = false) (hz : z_zs σ 32) : z_C l K mX6_init 1 12 0 0 [vR 32, vR 19] 32 (z_pd [(32, 1), (1, 4080)]) σ (z_IQ 32 (z_pd [(1, 4080)]) σ) := by
  refine P_of (lv := [vR 32, vR 19]) hst z_mX6_init rfl ?_ (Nat.le_of_ble_eq_true rfl) rfl
  refine V_aload_n (v := vR 32) (pc := 0) dX6_init_0 rfl ?_ (Or.inl rfl)
  refine V_obj (st := []) (pc := 1) dX6_init_1 z_wX6_3 z_obj1 z_obj2 (by decide) (Nat.le_of_ble_eq_true rfl) (Nat.le_of_ble_eq_true rfl) ?_
  refine V_aload_n (v := vR 32) (pc := 4) dX6_init_4 rfl ?_ (Or.inl rfl)
  refine V_aload_n (v := vR 19) (pc := 5) dX6_init_5 rfl ?_ (Or.inl rfl)
  refine P_putR (j := 0) (m' := 0) (P' := [(32, 0), (1, 4080)]) (pc := 6) dX6_init_6 z_CLX6 (by decide) z_wX6_9 rfl rfl rfl (by decide) (by decide) (by decide) (by decide +kernel) (by decide +kernel) z_h0 (z_clr (by decide +kernel) (by decide +kernel)) ?_
  refine P_pop (by decide +kernel) ?_
  exact P_ret (pc := 9) dX6_init_9 rfl
theorem i_X9_35 {l : Launch} {K : z_K} {σ : z_M} (hst : l.stackTraces = false) (hz : z_zs σ 35) : z_C l K mX9_init 2 35 12 1206 [vR 35] 35 (z_pd [(35, 63), (34, 4095), (33, 0), (1, 4064)]) σ (z_IQ 47 (z_pd [(34, 4095), (33, 0), (1, 4064)]) σ) := by
  refine P_of (lv := [vR 35]) hst z_mX9_init rfl ?_ (Nat.le_of_ble_eq_true rfl) rfl
  refine V_aload_n (v := vR 35) (pc := 0) dX9_init_0 rfl ?_ (Or.inl rfl)
  refine V_obj (st := []) (pc := 1) dX9_init_1 z_wX9_3 z_obj1 z_obj2 (by decide) (Nat.le_of_ble_eq_true rfl) (Nat.le_of_ble_eq_true rfl) ?_
  refine V_aload_n (v := vR 35) (pc := 4) dX9_init_4 rfl ?_ (Or.inl rfl)
  refine P_new (k := 36) (mk := 1) (bc2 := 11) (bs2 := 1205) (n2 := 36) (pc := 5) dX9_init_5 z_CLX7 z_wX9_9 z_inX7 z_itX7 (by decide +kernel) rfl rfl (by decide +kernel) (by decide) (hz.mono (m := 35) (Nat.le_of_ble_eq_true rfl)) (z_mk (by decide) (by decide +kernel)) ?_
  refine V_dup (a := vR 36) (pc := 8) dX9_init_8 ?_ (by decide)
  refine V_sipush (x := 200) (pc := 9) dX9_init_9 (by decide) ?_
  refine P_callI (as := [vI 200]) (st := [vR 36, vR 35]) (k := 36) (bc2 := 10) (bs2 := 1005) (pc := 12) dX9_init_12 z_mX7_init z_iX7_init z_wX9_11 (i_X7 (σ := σ) (P := [(35, 63), (34, 4095), (33, 0), (1, 4064)]) (n := 36) (n2 := 37) (sl := 200) hst (hz.mono (m := 36) (Nat.le_of_ble_eq_true rfl)) (by decide) (by decide) (by decide +kernel) rfl (by decide +kernel) (by decide +kernel) (by decide) rfl (by decide +kernel) (by decide +kernel)) rfl (by decide) ⟨(Nat.le_of_ble_eq_true rfl), (Nat.le_of_ble_eq_true rfl), (by decide +kernel), (by decide +kernel), (Nat.le_of_ble_eq_true rfl)⟩ ?_
  refine P_putR (j := 0) (m' := 62) (P' := [(35, 62), (34, 4095), (33, 0), (1, 4064)]) (pc := 15) dX9_init_15 z_CLX9 (by decide) z_wX9_14 rfl rfl rfl (by decide) (by decide) (by decide) (by decide +kernel) (by decide +kernel) z_h0 (z_clr (by decide +kernel) (by decide +kernel)) ?_
  refine V_aload_n (v := vR 35) (pc := 18) dX9_init_18 rfl ?_ (Or.inl rfl)
  refine P_new (k := 38) (mk := 1) (bc2 := 9) (bs2 := 1004) (n2 := 38) (pc := 19) dX9_init_19 z_CLX7 z_wX9_9 z_inX7 z_itX7 (by decide +kernel) rfl rfl (by decide +kernel) (by decide) (hz.mono (m := 37) (Nat.le_of_ble_eq_true rfl)) (z_mk (by decide) (by decide +kernel)) ?_
  refine V_dup (a := vR 38) (pc := 22) dX9_init_22 ?_ (by decide)
  refine V_sipush (x := 200) (pc := 23) dX9_init_23 (by decide) ?_
  refine P_callI (as := [vI 200]) (st := [vR 38, vR 35]) (k := 38) (bc2 := 8) (bs2 := 804) (pc := 26) dX9_init_26 z_mX7_init z_iX7_init z_wX9_11 (i_X7 (σ := σ) (P := [(35, 62), (34, 4095), (33, 0), (1, 4064)]) (n := 38) (n2 := 39) (sl := 200) hst (hz.mono (m := 38) (Nat.le_of_ble_eq_true rfl)) (by decide) (by decide) (by decide +kernel) rfl (by decide +kernel) (by decide +kernel) (by decide) rfl (by decide +kernel) (by decide +kernel)) rfl (by decide) ⟨(Nat.le_of_ble_eq_true rfl), (Nat.le_of_ble_eq_true rfl), (by decide +kernel), (by decide +kernel), (Nat.le_of_ble_eq_true rfl)⟩ ?_
  refine P_putR (j := 1) (m' := 60) (P' := [(35, 60), (34, 4095), (33, 0), (1, 4064)]) (pc := 29) dX9_init_29 z_CLX9 (by decide) z_wX9_20 rfl rfl rfl (by decide) (by decide) (by decide) (by decide +kernel) (by decide +kernel) z_h0 (z_clr (by decide +kernel) (by decide +kernel)) ?_
  refine V_aload_n (v := vR 35) (pc := 32) dX9_init_32 rfl ?_ (Or.inl rfl)
  refine P_new (k := 40) (mk := 1) (bc2 := 7) (bs2 := 803) (n2 := 40) (pc := 33) dX9_init_33 z_CLX7 z_wX9_9 z_inX7 z_itX7 (by decide +kernel) rfl rfl (by decide +kernel) (by decide) (hz.mono (m := 39) (Nat.le_of_ble_eq_true rfl)) (z_mk (by decide) (by decide +kernel)) ?_
  refine V_dup (a := vR 40) (pc := 36) dX9_init_36 ?_ (by decide)
  refine V_sipush (x := 200) (pc := 37) dX9_init_37 (by decide) ?_
  refine P_callI (as := [vI 200]) (st := [vR 40, vR 35]) (k := 40) (bc2 := 6) (bs2 := 603) (pc := 40) dX9_init_40 z_mX7_init z_iX7_init z_wX9_11 (i_X7 (σ := σ) (P := [(35, 60), (34, 4095), (33, 0), (1, 4064)]) (n := 40) (n2 := 41) (sl := 200) hst (hz.mono (m := 40) (Nat.le_of_ble_eq_true rfl)) (by decide) (by decide) (by decide +kernel) rfl (by decide +kernel) (by decide +kernel) (by decide) rfl (by decide +kernel) (by decide +kernel)) rfl (by decide) ⟨(Nat.le_of_ble_eq_true rfl), (Nat.le_of_ble_eq_true rfl), (by decide +kernel), (by decide +kernel), (Nat.le_of_ble_eq_true rfl)⟩ ?_
  refine P_putR (j := 2) (m' := 56) (P' := [(35, 56), (34, 4095), (33, 0), (1, 4064)]) (pc := 43) dX9_init_43 z_CLX9 (by decide) z_wX9_23 rfl rfl rfl (by decide) (by decide) (by decide) (by decide +kernel) (by decide +kernel) z_h0 (z_clr (by decide +kernel) (by decide +kernel)) ?_
  refine V_aload_n (v := vR 35) (pc := 46) dX9_init_46 rfl ?_ (Or.inl rfl)
  refine P_new (k := 42) (mk := 1) (bc2 := 5) (bs2 := 602) (n2 := 42) (pc := 47) dX9_init_47 z_CLX7 z_wX9_9 z_inX7 z_itX7 (by decide +kernel) rfl rfl (by decide +kernel) (by decide) (hz.mono (m := 41) (Nat.le_of_ble_eq_true rfl)) (z_mk (by decide) (by decide +kernel)) ?_
  refine V_dup (a := vR 42) (pc := 50) dX9_init_50 ?_ (by decide)
  refine V_sipush (x := 200) (pc := 51) dX9_init_51 (by decide) ?_
  refine P_callI (as := [vI 200]) (st := [vR 42, vR 35]) (k := 42) (bc2 := 4) (bs2 := 402) (pc := 54) dX9_init_54 z_mX7_init z_iX7_init z_wX9_11 (i_X7 (σ := σ) (P := [(35, 56), (34, 4095), (33, 0), (1, 4064)]) (n := 42) (n2 := 43) (sl := 200) hst (hz.mono (m := 42) (Nat.le_of_ble_eq_true rfl)) (by decide) (by decide) (by decide +kernel) rfl (by decide +kernel) (by decide +kernel) (by decide) rfl (by decide +kernel) (by decide +kernel)) rfl (by decide) ⟨(Nat.le_of_ble_eq_true rfl), (Nat.le_of_ble_eq_true rfl), (by decide +kernel), (by decide +kernel), (Nat.le_of_ble_eq_true rfl)⟩ ?_
  refine P_putR (j := 3) (m' := 48) (P' := [(35, 48), (34, 4095), (33, 0), (1, 4064)]) (pc := 57) dX9_init_57 z_CLX9 (by decide) z_wX9_26 rfl rfl rfl (by decide) (by decide) (by decide) (by decide +kernel) (by decide +kernel) z_h0 (z_clr (by decide +kernel) (by decide +kernel)) ?_
  refine V_aload_n (v := vR 35) (pc := 60) dX9_init_60 rfl ?_ (Or.inl rfl)
  refine P_new (k := 44) (mk := 1) (bc2 := 3) (bs2 := 401) (n2 := 44) (pc := 61) dX9_init_61 z_CLX4 z_wX9_29 z_inX4 z_itX4 (by decide +kernel) rfl rfl (by decide +kernel) (by decide) (hz.mono (m := 43) (Nat.le_of_ble_eq_true rfl)) (z_mk (by decide) (by decide +kernel)) ?_
  refine V_dup (a := vR 44) (pc := 64) dX9_init_64 ?_ (by decide)
  refine V_sipush (x := 200) (pc := 65) dX9_init_65 (by decide) ?_
  refine P_callI (as := [vI 200]) (st := [vR 44, vR 35]) (k := 44) (bc2 := 2) (bs2 := 201) (pc := 68) dX9_init_68 z_mX4_init z_iX4_init z_wX9_31 (i_X4 (σ := σ) (P := [(35, 48), (34, 4095), (33, 0), (1, 4064)]) (n := 44) (n2 := 45) (sl := 200) hst (hz.mono (m := 44) (Nat.le_of_ble_eq_true rfl)) (by decide) (by decide) (by decide +kernel) rfl (by decide +kernel) (by decide +kernel) (by decide) rfl (by decide +kernel) (by decide +kernel)) rfl (by decide) ⟨(Nat.le_of_ble_eq_true rfl), (Nat.le_of_ble_eq_true rfl), (by decide +kernel), (by decide +kernel), (Nat.le_of_ble_eq_true rfl)⟩ ?_
  refine P_putR (j := 4) (m' := 32) (P' := [(35, 32), (34, 4095), (33, 0), (1, 4064)]) (pc := 71) dX9_init_71 z_CLX9 (by decide) z_wX9_32 rfl rfl rfl (by decide) (by decide) (by decide) (by decide +kernel) (by decide +kernel) z_h0 (z_clr (by decide +kernel) (by decide +kernel)) ?_
  refine V_aload_n (v := vR 35) (pc := 74) dX9_init_74 rfl ?_ (Or.inl rfl)
  refine P_new (k := 46) (mk := 1) (bc2 := 1) (bs2 := 200) (n2 := 46) (pc := 75) dX9_init_75 z_CLX4 z_wX9_29 z_inX4 z_itX4 (by decide +kernel) rfl rfl (by decide +kernel) (by decide) (hz.mono (m := 45) (Nat.le_of_ble_eq_true rfl)) (z_mk (by decide) (by decide +kernel)) ?_
  refine V_dup (a := vR 46) (pc := 78) dX9_init_78 ?_ (by decide)
  refine V_sipush (x := 200) (pc := 79) dX9_init_79 (by decide) ?_
  refine P_callI (as := [vI 200]) (st := [vR 46, vR 35]) (k := 46) (bc2 := 0) (bs2 := 0) (pc := 82) dX9_init_82 z_mX4_init z_iX4_init z_wX9_31 (i_X4 (σ := σ) (P := [(35, 32), (34, 4095), (33, 0), (1, 4064)]) (n := 46) (n2 := 47) (sl := 200) hst (hz.mono (m := 46) (Nat.le_of_ble_eq_true rfl)) (by decide) (by decide) (by decide +kernel) rfl (by decide +kernel) (by decide +kernel) (by decide) rfl (by decide +kernel) (by decide +kernel)) rfl (by decide) ⟨(Nat.le_of_ble_eq_true rfl), (Nat.le_of_ble_eq_true rfl), (by decide +kernel), (by decide +kernel), (Nat.le_of_ble_eq_true rfl)⟩ ?_
  refine P_putR (j := 5) (m' := 0) (P' := [(35, 0), (34, 4095), (33, 0), (1, 4064)]) (pc := 85) dX9_init_85 z_CLX9 (by decide) z_wX9_36 rfl rfl rfl (by decide) (by decide) (by decide) (by decide +kernel) (by decide +kernel) z_h0 (z_clr (by decide +kernel) (by decide +kernel)) ?_
  refine P_pop (by decide +kernel) ?_
  exact P_ret (pc := 88) dX9_init_88 rfl
theorem i_X9_48 {l : Launch} {K : z_K} {σ : z_M} (hst : l.stackTraces = false) (hz : z_zs σ 48) : z_C l K mX9_init 2 35 12 1206 [vR 48] 48 (z_pd [(48, 63), (34, 4094), (33, 0), (1, 4064)]) σ (z_IQ 60 (z_pd [(34, 4094), (33, 0), (1, 4064)]) σ) := by
  refine P_of (lv := [vR 48]) hst z_mX9_init rfl ?_ (Nat.le_of_ble_eq_true rfl) rfl
  refine V_aload_n (v := vR 48) (pc := 0) dX9_init_0 rfl ?_ (Or.inl rfl)
  refine V_obj (st := []) (pc := 1) dX9_init_1 z_wX9_3 z_obj1 z_obj2 (by decide) (Nat.le_of_ble_eq_true rfl) (Nat.le_of_ble_eq_true rfl) ?_
  refine V_aload_n (v := vR 48) (pc := 4) dX9_init_4 rfl ?_ (Or.inl rfl)
  refine P_new (k := 49) (mk := 1) (bc2 := 11) (bs2 := 1205) (n2 := 49) (pc := 5) dX9_init_5 z_CLX7 z_wX9_9 z_inX7 z_itX7 (by decide +kernel) rfl rfl (by decide +kernel) (by decide) (hz.mono (m := 48) (Nat.le_of_ble_eq_true rfl)) (z_mk (by decide) (by decide +kernel)) ?_
  refine V_dup (a := vR 49) (pc := 8) dX9_init_8 ?_ (by decide)
  refine V_sipush (x := 200) (pc := 9) dX9_init_9 (by decide) ?_
  refine P_callI (as := [vI 200]) (st := [vR 49, vR 48]) (k := 49) (bc2 := 10) (bs2 := 1005) (pc := 12) dX9_init_12 z_mX7_init z_iX7_init z_wX9_11 (i_X7 (σ := σ) (P := [(48, 63), (34, 4094), (33, 0), (1, 4064)]) (n := 49) (n2 := 50) (sl := 200) hst (hz.mono (m := 49) (Nat.le_of_ble_eq_true rfl)) (by decide) (by decide) (by decide +kernel) rfl (by decide +kernel) (by decide +kernel) (by decide) rfl (by decide +kernel) (by decide +kernel)) rfl (by decide) ⟨(Nat.le_of_ble_eq_true rfl), (Nat.le_of_ble_eq_true rfl), (by decide +kernel), (by decide +kernel), (Nat.le_of_ble_eq_true rfl)⟩ ?_
  refine P_putR (j := 0) (m' := 62) (P' := [(48, 62), (34, 4094), (33, 0), (1, 4064)]) (pc := 15) dX9_init_15 z_CLX9 (by decide) z_wX9_14 rfl rfl rfl (by decide) (by decide) (by decide) (by decide +kernel) (by decide +kernel) z_h0 (z_clr (by decide +kernel) (by decide +kernel)) ?_
  refine V_aload_n (v := vR 48) (pc := 18) dX9_init_18 rfl ?_ (Or.inl rfl)
  refine P_new (k := 51) (mk := 1) (bc2 := 9) (bs2 := 1004) (n2 := 51) (pc := 19) dX9_init_19 z_CLX7 z_wX9_9 z_inX7 z_itX7 (by decide +kernel) rfl rfl (by decide +kernel) (by decide) (hz.mono (m := 50) (Nat.le_of_ble_eq_true rfl)) (z_mk (by decide) (by decide +kernel)) ?_
  refine V_dup (a := vR 51) (pc := 22) dX9_init_22 ?_ (by decide)
  refine V_sipush (x := 200) (pc := 23) dX9_init_23 (by decide) ?_
  refine P_callI (as := [vI 200]) (st := [vR 51, vR 48]) (k := 51) (bc2 := 8) (bs2 := 804) (pc := 26) dX9_init_26 z_mX7_init z_iX7_init z_wX9_11 (i_X7 (σ := σ) (P := [(48, 62), (34, 4094), (33, 0), (1, 4064)]) (n := 51) (n2 := 52) (sl := 200) hst (hz.mono (m := 51) (Nat.le_of_ble_eq_true rfl)) (by decide) (by decide) (by decide +kernel) rfl (by decide +kernel) (by decide +kernel) (by decide) rfl (by decide +kernel) (by decide +kernel)) rfl (by decide) ⟨(Nat.le_of_ble_eq_true rfl), (Nat.le_of_ble_eq_true rfl), (by decide +kernel), (by decide +kernel), (Nat.le_of_ble_eq_true rfl)⟩ ?_
  refine P_putR (j := 1) (m' := 60) (P' := [(48, 60), (34, 4094), (33, 0), (1, 4064)]) (pc := 29) dX9_init_29 z_CLX9 (by decide) z_wX9_20 rfl rfl rfl (by decide) (by decide) (by decide) (by decide +kernel) (by decide +kernel) z_h0 (z_clr (by decide +kernel) (by decide +kernel)) ?_
  refine V_aload_n (v := vR 48) (pc := 32) dX9_init_32 rfl ?_ (Or.inl rfl)
  refine P_new (k := 53) (mk := 1) (bc2 := 7) (bs2 := 803) (n2 := 53) (pc := 33) dX9_init_33 z_CLX7 z_wX9_9 z_inX7 z_itX7 (by decide +kernel) rfl rfl (by decide +kernel) (by decide) (hz.mono (m := 52) (Nat.le_of_ble_eq_true rfl)) (z_mk (by decide) (by decide +kernel)) ?_
  refine V_dup (a := vR 53) (pc := 36) dX9_init_36 ?_ (by decide)
  refine V_sipush (x := 200) (pc := 37) dX9_init_37 (by decide) ?_
  refine P_callI (as := [vI 200]) (st := [vR 53, vR 48]) (k := 53) (bc2 := 6) (bs2 := 603) (pc := 40) dX9_init_40 z_mX7_init z_iX7_init z_wX9_11 (i_X7 (σ := σ) (P := [(48, 60), (34, 4094), (33, 0), (1, 4064)]) (n := 53) (n2 := 54) (sl := 200) hst (hz.mono (m := 53) (Nat.le_of_ble_eq_true rfl)) (by decide) (by decide) (by decide +kernel) rfl (by decide +kernel) (by decide +kernel) (by decide) rfl (by decide +kernel) (by decide +kernel)) rfl (by decide) ⟨(Nat.le_of_ble_eq_true rfl), (Nat.le_of_ble_eq_true rfl), (by decide +kernel), (by decide +kernel), (Nat.le_of_ble_eq_true rfl)⟩ ?_
  refine P_putR (j := 2) (m' := 56) (P' := [(48, 56), (34, 4094), (33, 0), (1, 4064)]) (pc := 43) dX9_init_43 z_CLX9 (by decide) z_wX9_23 rfl rfl rfl (by decide) (by decide) (by decide) (by decide +kernel) (by decide +kernel) z_h0 (z_clr (by decide +kernel) (by decide +kernel)) ?_
  refine V_aload_n (v := vR 48) (pc := 46) dX9_init_46 rfl ?_ (Or.inl rfl)
  refine P_new (k := 55) (mk := 1) (bc2 := 5) (bs2 := 602) (n2 := 55) (pc := 47) dX9_init_47 z_CLX7 z_wX9_9 z_inX7 z_itX7 (by decide +kernel) rfl rfl (by decide +kernel) (by decide) (hz.mono (m := 54) (Nat.le_of_ble_eq_true rfl)) (z_mk (by decide) (by decide +kernel)) ?_
  refine V_dup (a := vR 55) (pc := 50) dX9_init_50 ?_ (by decide)
  refine V_sipush (x := 200) (pc := 51) dX9_init_51 (by decide) ?_
  refine P_callI (as := [vI 200]) (st := [vR 55, vR 48]) (k := 55) (bc2 := 4) (bs2 := 402) (pc := 54) dX9_init_54 z_mX7_init z_iX7_init z_wX9_11 (i_X7 (σ := σ) (P := [(48, 56), (34, 4094), (33, 0), (1, 4064)]) (n := 55) (n2 := 56) (sl := 200) hst (hz.mono (m := 55) (Nat.le_of_ble_eq_true rfl)) (by decide) (by decide) (by decide +kernel) rfl (by decide +kernel) (by decide +kernel) (by decide) rfl (by decide +kernel) (by decide +kernel)) rfl (by decide) ⟨(Nat.le_of_ble_eq_true rfl), (Nat.le_of_ble_eq_true rfl), (by decide +kernel), (by decide +kernel), (Nat.le_of_ble_eq_true rfl)⟩ ?_
  refine P_putR (j := 3) (m' := 48) (P' := [(48, 48), (34, 4094), (33, 0), (1, 4064)]) (pc := 57) dX9_init_57 z_CLX9 (by decide) z_wX9_26 rfl rfl rfl (by decide) (by decide) (by decide) (by decide +kernel) (by decide +kernel) z_h0 (z_clr (by decide +kernel) (by decide +kernel)) ?_
  refine V_aload_n (v := vR 48) (pc := 60) dX9_init_60 rfl ?_ (Or.inl rfl)
  refine P_new (k := 57) (mk := 1) (bc2 := 3) (bs2 := 401) (n2 := 57) (pc := 61) dX9_init_61 z_CLX4 z_wX9_29 z_inX4 z_itX4 (by decide +kernel) rfl rfl (by decide +kernel) (by decide) (hz.mono (m := 56) (Nat.le_of_ble_eq_true rfl)) (z_mk (by decide) (by decide +kernel)) ?_
  refine V_dup (a := vR 57) (pc := 64) dX9_init_64 ?_ (by decide)
  refine V_sipush (x := 200) (pc := 65) dX9_init_65 (by decide) ?_
  refine P_callI (as := [vI 200]) (st := [vR 57, vR 48]) (k := 57) (bc2 := 2) (bs2 := 201) (pc := 68) dX9_init_68 z_mX4_init z_iX4_init z_wX9_31 (i_X4 (σ := σ) (P := [(48, 48), (34, 4094), (33, 0), (1, 4064)]) (n := 57) (n2 := 58) (sl := 200) hst (hz.mono (m := 57) (Nat.le_of_ble_eq_true rfl)) (by decide) (by decide) (by decide +kernel) rfl (by decide +kernel) (by decide +kernel) (by decide) rfl (by decide +kernel) (by decide +kernel)) rfl (by decide) ⟨(Nat.le_of_ble_eq_true rfl), (Nat.le_of_ble_eq_true rfl), (by decide +kernel), (by decide +kernel), (Nat.le_of_ble_eq_true rfl)⟩ ?_
  refine P_putR (j := 4) (m' := 32) (P' := [(48, 32), (34, 4094), (33, 0), (1, 4064)]) (pc := 71) dX9_init_71 z_CLX9 (by decide) z_wX9_32 rfl rfl rfl (by decide) (by decide) (by decide) (by decide +kernel) (by decide +kernel) z_h0 (z_clr (by decide +kernel) (by decide +kernel)) ?_
  refine V_aload_n (v := vR 48) (pc := 74) dX9_init_74 rfl ?_ (Or.inl rfl)
  refine P_new (k := 59) (mk := 1) (bc2 := 1) (bs2 := 200) (n2 := 59) (pc := 75) dX9_init_75 z_CLX4 z_wX9_29 z_inX4 z_itX4 (by decide +kernel) rfl rfl (by decide +kernel) (by decide) (hz.mono (m := 58) (Nat.le_of_ble_eq_true rfl)) (z_mk (by decide) (by decide +kernel)) ?_
  refine V_dup (a := vR 59) (pc := 78) dX9_init_78 ?_ (by decide)
  refine V_sipush (x := 200) (pc := 79) dX9_init_79 (by decide) ?_
  refine P_callI (as := [vI 200]) (st := [vR 59, vR 48]) (k := 59) (bc2 := 0) (bs2 := 0) (pc := 82) dX9_init_82 z_mX4_init z_iX4_init z_wX9_31 (i_X4 (σ := σ) (P := [(48, 32), (34, 4094), (33, 0), (1, 4064)]) (n := 59) (n2 := 60) (sl := 200) hst (hz.mono (m := 59) (Nat.le_of_ble_eq_true rfl)) (by decide) (by decide) (by decide +kernel) rfl (by decide +kernel) (by decide +kernel) (by decide) rfl (by decide +kernel) (by decide +kernel)) rfl (by decide) ⟨(Nat.le_of_ble_eq_true rfl), (Nat.le_of_ble_eq_true rfl), (by decide +kernel), (by decide +kernel), (Nat.le_of_ble_eq_true rfl)⟩ ?_
  refine P_putR (j := 5) (m' := 0) (P' := [(48, 0), (34, 4094), (33, 0), (1, 4064)]) (pc := 85) dX9_init_85 z_CLX9 (by decide) z_wX9_36 rfl rfl rfl (by decide) (by decide) (by decide) (by decide +kernel) (by decide +kernel) z_h0 (z_clr (by decide +kernel) (by decide +kernel)) ?_
  refine P_pop (by decide +kernel) ?_
  exact P_ret (pc := 88) dX9_init_88 rfl
theorem i_X9_61 {l : Launch} {K : z_K} {σ : z_M} (hst : l.stackTraces = false) (hz : z_zs σ 61) : z_C l K mX9_init 2 35 12 1206 [vR 61] 61 (z_pd [(61, 63), (34, 4092), (33, 0), (1, 4064)]) σ (z_IQ 73 (z_pd [(34, 4092), (33, 0), (1, 4064)]) σ) := by
  refine P_of (lv := [vR 61]) hst z_mX9_init rfl ?_ (Nat.le_of_ble_eq_true rfl) rfl
  refine V_aload_n (v := vR 61) (pc := 0) dX9_init_0 rfl ?_ (Or.inl rfl)
  refine V_obj (st := []) (pc := 1) dX9_init_1 z_wX9_3 z_obj1 z_obj2 (by decide) (Nat.le_of_ble_eq_true rfl) (Nat.le_of_ble_eq_true rfl) ?_
  refine V_aload_n (v := vR 61) (pc := 4) dX9_init_4 rfl ?_ (Or.inl rfl)
  refine P_new (k := 62) (mk := 1) (bc2 := 11) (bs2 := 1205) (n2 := 62) (pc := 5) dX9_init_5 z_CLX7 z_wX9_9 z_inX7 z_itX7 (by decide +kernel) rfl rfl (by decide +kernel) (by decide) (hz.mono (m := 61) (Nat.le_of_ble_eq_true rfl)) (z_mk (by decide) (by decide +kernel)) ?_
  refine V_dup (a := vR 62) (pc := 8) dX9_init_8 ?_ (by decide)
  refine V_sipush (x := 200) (pc := 9) dX9_init_9 (by decide) ?_
  refine P_callI (as := [vI 200]) (st := [vR 62, vR 61]) (k := 62) (bc2 := 10) (bs2 := 1005) (pc := 12) dX9_init_12 z_mX7_init z_iX7_init z_wX9_11 (i_X7 (σ := σ) (P := [(61, 63), (34, 4092), (33, 0), (1, 4064)]) (n := 62) (n2 := 63) (sl := 200) hst (hz.mono (m := 62) (Nat.le_of_ble_eq_true rfl)) (by decide) (by decide) (by decide +kernel) rfl (by decide +kernel) (by decide +kernel) (by decide) rfl (by decide +kernel) (by decide +kernel)) rfl (by decide) ⟨(Nat.le_of_ble_eq_true rfl), (Nat.le_of_ble_eq_true rfl), (by decide +kernel), (by decide +kernel), (Nat.le_of_ble_eq_true rfl)⟩ ?_
  refine P_putR (j := 0) (m' := 62) (P' := [(61, 62), (34, 4092), (33, 0), (1, 4064)]) (pc := 15) dX9_init_15 z_CLX9 (by decide) z_wX9_14 rfl rfl rfl (by decide) (by decide) (by decide) (by decide +kernel) (by decide +kernel) z_h0 (z_clr (by decide +kernel) (by decide +kernel)) ?_
  refine V_aload_n (v := vR 61) (pc := 18) dX9_init_18 rfl ?_ (Or.inl rfl)
  refine P_new (k := 64) (mk := 1) (bc2 := 9) (bs2 := 1004) (n2 := 64) (pc := 19) dX9_init_19 z_CLX7 z_wX9_9 z_inX7 z_itX7 (by decide +kernel) rfl rfl (by decide +kernel) (by decide) (hz.mono (m := 63) (Nat.le_of_ble_eq_true rfl)) (z_mk (by decide) (by decide +kernel)) ?_
  refine V_dup (a := vR 64) (pc := 22) dX9_init_22 ?_ (by decide)
  refine V_sipush (x := 200) (pc := 23) dX9_init_23 (by decide) ?_
  refine P_callI (as := [vI 200]) (st := [vR 64, vR 61]) (k := 64) (bc2 := 8) (bs2 := 804) (pc := 26) dX9_init_26 z_mX7_init z_iX7_init z_wX9_11 (i_X7 (σ := σ) (P := [(61, 62), (34, 4092), (33, 0), (1, 4064)]) (n := 64) (n2 := 65) (sl := 200) hst (hz.mono (m := 64) (Nat.le_of_ble_eq_true rfl)) (by decide) (by decide) (by decide +kernel) rfl (by decide +kernel) (by decide +kernel) (by decide) rfl (by decide +kernel) (by decide +kernel)) rfl (by decide) ⟨(Nat.le_of_ble_eq_true rfl), (Nat.le_of_ble_eq_true rfl), (by decide +kernel), (by decide +kernel), (Nat.le_of_ble_eq_true rfl)⟩ ?_
  refine P_putR (j := 1) (m' := 60) (P' := [(61, 60), (34, 4092), (33, 0), (1, 4064)]) (pc := 29) dX9_init_29 z_CLX9 (by decide) z_wX9_20 rfl rfl rfl (by decide) (by decide) (by decide) (by decide +kernel) (by decide +kernel) z_h0 (z_clr (by decide +kernel) (by decide +kernel)) ?_
  refine V_aload_n (v := vR 61) (pc := 32) dX9_init_32 rfl ?_ (Or.inl rfl)
  refine P_new (k := 66) (mk := 1) (bc2 := 7) (bs2 := 803) (n2 := 66) (pc := 33) dX9_init_33 z_CLX7 z_wX9_9 z_inX7 z_itX7 (by decide +kernel) rfl rfl (by decide +kernel) (by decide) (hz.mono (m := 65) (Nat.le_of_ble_eq_true rfl)) (z_mk (by decide) (by decide +kernel)) ?_
  refine V_dup (a := vR 66) (pc := 36) dX9_init_36 ?_ (by decide)
  refine V_sipush (x := 200) (pc := 37) dX9_init_37 (by decide) ?_
  refine P_callI (as := [vI 200]) (st := [vR 66, vR 61]) (k := 66) (bc2 := 6) (bs2 := 603) (pc := 40) dX9_init_40 z_mX7_init z_iX7_init z_wX9_11 (i_X7 (σ := σ) (P := [(61, 60), (34, 4092), (33, 0), (1, 4064)]) (n := 66) (n2 := 67) (sl := 200) hst (hz.mono (m := 66) (Nat.le_of_ble_eq_true rfl)) (by decide) (by decide) (by decide +kernel) rfl (by decide +kernel) (by decide +kernel) (by decide) rfl (by decide +kernel) (by decide +kernel)) rfl (by decide) ⟨(Nat.le_of_ble_eq_true rfl), (Nat.le_of_ble_eq_true rfl), (by decide +kernel), (by decide +kernel), (Nat.le_of_ble_eq_true rfl)⟩ ?_
  refine P_putR (j := 2) (m' := 56) (P' := [(61, 56), (34, 4092), (33, 0), (1, 4064)]) (pc := 43) dX9_init_43 z_CLX9 (by decide) z_wX9_23 rfl rfl rfl (by decide) (by decide) (by decide) (by decide +kernel) (by decide +kernel) z_h0 (z_clr (by decide +kernel) (by decide +kernel)) ?_
  refine V_aload_n (v := vR 61) (pc := 46) dX9_init_46 rfl ?_ (Or.inl rfl)
  refine P_new (k := 68) (mk := 1) (bc2 := 5) (bs2 := 602) (n2 := 68) (pc := 47) dX9_init_47 z_CLX7 z_wX9_9 z_inX7 z_itX7 (by decide +kernel) rfl rfl (by decide +kernel) (by decide) (hz.mono (m := 67) (Nat.le_of_ble_eq_true rfl)) (z_mk (by decide) (by decide +kernel)) ?_
  refine V_dup (a := vR 68) (pc := 50) dX9_init_50 ?_ (by decide)
  refine V_sipush (x := 200) (pc := 51) dX9_init_51 (by decide) ?_
  refine P_callI (as := [vI 200]) (st := [vR 68, vR 61]) (k := 68) (bc2 := 4) (bs2 := 402) (pc := 54) dX9_init_54 z_mX7_init z_iX7_init z_wX9_11 (i_X7 (σ := σ) (P := [(61, 56), (34, 4092), (33, 0), (1, 4064)]) (n := 68) (n2 := 69) (sl := 200) hst (hz.mono (m := 68) (Nat.le_of_ble_eq_true rfl)) (by decide) (by decide) (by decide +kernel) rfl (by decide +kernel) (by decide +kernel) (by decide) rfl (by decide +kernel) (by decide +kernel)) rfl (by decide) ⟨(Nat.le_of_ble_eq_true rfl), (Nat.le_of_ble_eq_true rfl), (by decide +kernel), (by decide +kernel), (Nat.le_of_ble_eq_true rfl)⟩ ?_
  refine P_putR (j := 3) (m' := 48) (P' := [(61, 48), (34, 4092), (33, 0), (1, 4064)]) (pc := 57) dX9_init_57 z_CLX9 (by decide) z_wX9_26 rfl rfl rfl (by decide) (by decide) (by decide) (by decide +kernel) (by decide +kernel) z_h0 (z_clr (by decide +kernel) (by decide +kernel)) ?_
  refine V_aload_n (v := vR 61) (pc := 60) dX9_init_60 rfl ?_ (Or.inl rfl)
  refine P_new (k := 70) (mk := 1) (bc2 := 3) (bs2 := 401) (n2 := 70) (pc := 61) dX9_init_61 z_CLX4 z_wX9_29 z_inX4 z_itX4 (by decide +kernel) rfl rfl (by decide +kernel) (by decide) (hz.mono (m := 69) (Nat.le_of_ble_eq_true rfl)) (z_mk (by decide) (by decide +kernel)) ?_
  refine V_dup (a := vR 70) (pc := 64) dX9_init_64 ?_ (by decide)
  refine V_sipush (x := 200) (pc := 65) dX9_init_65 (by decide) ?_
  refine P_callI (as := [vI 200]) (st := [vR 70, vR 61]) (k := 70) (bc2 := 2) (bs2 := 201) (pc := 68) dX9_init_68 z_mX4_init z_iX4_init z_wX9_31 (i_X4 (σ := σ) (P := [(61, 48), (34, 4092), (33, 0), (1, 4064)]) (n := 70) (n2 := 71) (sl := 200) hst (hz.mono (m := 70) (Nat.le_of_ble_eq_true rfl)) (by decide) (by decide) (by decide +kernel) rfl (by decide +kernel) (by decide +kernel) (by decide) rfl (by decide +kernel) (by decide +kernel)) rfl (by decide) ⟨(Nat.le_of_ble_eq_true rfl), (Nat.le_of_ble_eq_true rfl), (by decide +kernel), (by decide +kernel), (Nat.le_of_ble_eq_true rfl)⟩ ?_
  refine P_putR (j := 4) (m' := 32) (P' := [(61, 32), (34, 4092), (33, 0), (1, 4064)]) (pc := 71) dX9_init_71 z_CLX9 (by decide) z_wX9_32 rfl rfl rfl (by decide) (by decide) (by decide) (by decide +kernel) (by decide +kernel) z_h0 (z_clr (by decide +kernel) (by decide +kernel)) ?_
  refine V_aload_n (v := vR 61) (pc := 74) dX9_init_74 rfl ?_ (Or.inl rfl)
  refine P_new (k := 72) (mk := 1) (bc2 := 1) (bs2 := 200) (n2 := 72) (pc := 75) dX9_init_75 z_CLX4 z_wX9_29 z_inX4 z_itX4 (by decide +kernel) rfl rfl (by decide +kernel) (by decide) (hz.mono (m := 71) (Nat.le_of_ble_eq_true rfl)) (z_mk (by decide) (by decide +kernel)) ?_
  refine V_dup (a := vR 72) (pc := 78) dX9_init_78 ?_ (by decide)
  refine V_sipush (x := 200) (pc := 79) dX9_init_79 (by decide) ?_
  refine P_callI (as := [vI 200]) (st := [vR 72, vR 61]) (k := 72) (bc2 := 0) (bs2 := 0) (pc := 82) dX9_init_82 z_mX4_init z_iX4_init z_wX9_31 (i_X4 (σ := σ) (P := [(61, 32), (34, 4092), (33, 0), (1, 4064)]) (n := 72) (n2 := 73) (sl := 200) hst (hz.mono (m := 72) (Nat.le_of_ble_eq_true rfl)) (by decide) (by decide) (by decide +kernel) rfl (by decide +kernel) (by decide +kernel) (by decide) rfl (by decide +kernel) (by decide +kernel)) rfl (by decide) ⟨(Nat.le_of_ble_eq_true rfl), (Nat.le_of_ble_eq_true rfl), (by decide +kernel), (by decide +kernel), (Nat.le_of_ble_eq_true rfl)⟩ ?_
  refine P_putR (j := 5) (m' := 0) (P' := [(61, 0), (34, 4092), (33, 0), (1, 4064)]) (pc := 85) dX9_init_85 z_CLX9 (by decide) z_wX9_36 rfl rfl rfl (by decide) (by decide) (by decide) (by decide +kernel) (by decide +kernel) z_h0 (z_clr (by decide +kernel) (by decide +kernel)) ?_
  refine P_pop (by decide +kernel) ?_
  exact P_ret (pc := 88) dX9_init_88 rfl
theorem i_X9_74 {l : Launch} {K : z_K} {σ : z_M} (hst : l.stackTraces = false) (hz : z_zs σ 74) : z_C l K mX9_init 2 35 12 1206 [vR 74] 74 (z_pd [(74, 63), (34, 4088), (33, 0), (1, 4064)]) σ (z_IQ 86 (z_pd [(34, 4088), (33, 0), (1, 4064)]) σ) := by
  refine P_of (lv := [vR 74]) hst z_mX9_init rfl ?_ (Nat.le_of_ble_eq_true rfl) rfl
  refine V_aload_n (v := vR 74) (pc := 0) dX9_init_0 rfl ?_ (Or.inl rfl)
  refine V_obj (st := []) (pc := 1) dX9_init_1 z_wX9_3 z_obj1 z_obj2 (by decide) (Nat.le_of_ble_eq_true rfl) (Nat.le_of_ble_eq_true rfl) ?_
  refine V_aload_n (v := vR 74) (pc := 4) dX9_init_4 rfl ?_ (Or.inl rfl)
  refine P_new (k := 75) (mk := 1) (bc2 := 11) (bs2 := 1205) (n2 := 75) (pc := 5) dX9_init_5 z_CLX7 z_wX9_9 z_inX7 z_itX7 (by decide +kernel) rfl rfl (by decide +kernel) (by decide) (hz.mono (m := 74) (Nat.le_of_ble_eq_true rfl)) (z_mk (by decide) (by decide +kernel)) ?_
  refine V_dup (a := vR 75) (pc := 8) dX9_init_8 ?_ (by decide)
  refine V_sipush (x := 200) (pc := 9) dX9_init_9 (by decide) ?_
  refine P_callI (as := [vI 200]) (st := [vR 75, vR 74]) (k := 75) (bc2 := 10) (bs2 := 1005) (pc := 12) dX9_init_12 z_mX7_init z_iX7_init z_wX9_11 (i_X7 (σ := σ) (P := [(74, 63), (34, 4088), (33, 0), (1, 4064)]) (n := 75) (n2 := 76) (sl := 200) hst (hz.mono (m := 75) (Nat.le_of_ble_eq_true rfl)) (by decide) (by decide) (by decide +kernel) rfl (by decide +kernel) (by decide +kernel) (by decide) rfl (by decide +kernel) (by decide +kernel)) rfl (by decide) ⟨(Nat.le_of_ble_eq_true rfl), (Nat.le_of_ble_eq_true rfl), (by decide +kernel), (by decide +kernel), (Nat.le_of_ble_eq_true rfl)⟩ ?_
  refine P_putR (j := 0) (m' := 62) (P' := [(74, 62), (34, 4088), (33, 0), (1, 4064)]) (pc := 15) dX9_init_15 z_CLX9 (by decide) z_wX9_14 rfl rfl rfl (by decide) (by decide) (by decide) (by decide +kernel) (by decide +kernel) z_h0 (z_clr (by decide +kernel) (by decide +kernel)) ?_
  refine V_aload_n (v := vR 74) (pc := 18) dX9_init_18 rfl ?_ (Or.inl rfl)
  refine P_new (k := 77) (mk := 1) (bc2 := 9) (bs2 := 1004) (n2 := 77) (pc := 19) dX9_init_19 z_CLX7 z_wX9_9 z_inX7 z_itX7 (by decide +kernel) rfl rfl (by decide +kernel) (by decide) (hz.mono (m := 76) (Nat.le_of_ble_eq_true rfl)) (z_mk (by decide) (by decide +kernel)) ?_
  refine V_dup (a := vR 77) (pc := 22) dX9_init_22 ?_ (by decide)
  refine V_sipush (x := 200) (pc := 23) dX9_init_23 (by decide) ?_
  refine P_callI (as := [vI 200]) (st := [vR 77, vR 74]) (k := 77) (bc2 := 8) (bs2 := 804) (pc := 26) dX9_init_26 z_mX7_init z_iX7_init z_wX9_11 (i_X7 (σ := σ) (P := [(74, 62), (34, 4088), (33, 0), (1, 4064)]) (n := 77) (n2 := 78) (sl := 200) hst (hz.mono (m := 77) (Nat.le_of_ble_eq_true rfl)) (by decide) (by decide) (by decide +kernel) rfl (by decide +kernel) (by decide +kernel) (by decide) rfl (by decide +kernel) (by decide +kernel)) rfl (by decide) ⟨(Nat.le_of_ble_eq_true rfl), (Nat.le_of_ble_eq_true rfl), (by decide +kernel), (by decide +kernel), (Nat.le_of_ble_eq_true rfl)⟩ ?_
  refine P_putR (j := 1) (m' := 60) (P' := [(74, 60), (34, 4088), (33, 0), (1, 4064)]) (pc := 29) dX9_init_29 z_CLX9 (by decide) z_wX9_20 rfl rfl rfl (by decide) (by decide) (by decide) (by decide +kernel) (by decide +kernel) z_h0 (z_clr (by decide +kernel) (by decide +kernel)) ?_
  refine V_aload_n (v := vR 74) (pc := 32) dX9_init_32 rfl ?_ (Or.inl rfl)
  refine P_new (k := 79) (mk := 1) (bc2 := 7) (bs2 := 803) (n2 := 79) (pc := 33) dX9_init_33 z_CLX7 z_wX9_9 z_inX7 z_itX7 (by decide +kernel) rfl rfl (by decide +kernel) (by decide) (hz.mono (m := 78) (Nat.le_of_ble_eq_true rfl)) (z_mk (by decide) (by decide +kernel)) ?_
  refine V_dup (a := vR 79) (pc := 36) dX9_init_36 ?_ (by decide)
  refine V_sipush (x := 200) (pc := 37) dX9_init_37 (by decide) ?_
  refine P_callI (as := [vI 200]) (st := [vR 79, vR 74]) (k := 79) (bc2 := 6) (bs2 := 603) (pc := 40) dX9_init_40 z_mX7_init z_iX7_init z_wX9_11 (i_X7 (σ := σ) (P := [(74, 60), (34, 4088), (33, 0), (1, 4064)]) (n := 79) (n2 := 80) (sl := 200) hst (hz.mono (m := 79) (Nat.le_of_ble_eq_true rfl)) (by decide) (by decide) (by decide +kernel) rfl (by decide +kernel) (by decide +kernel) (by decide) rfl (by decide +kernel) (by decide +kernel)) rfl (by decide) ⟨(Nat.le_of_ble_eq_true rfl), (Nat.le_of_ble_eq_true rfl), (by decide +kernel), (by decide +kernel), (Nat.le_of_ble_eq_true rfl)⟩ ?_
  refine P_putR (j := 2) (m' := 56) (P' := [(74, 56), (34, 4088), (33, 0), (1, 4064)]) (pc := 43) dX9_init_43 z_CLX9 (by decide) z_wX9_23 rfl rfl rfl (by decide) (by decide) (by decide) (by decide +kernel) (by decide +kernel) z_h0 (z_clr (by decide +kernel) (by decide +kernel)) ?_
  refine V_aload_n (v := vR 74) (pc := 46) dX9_init_46 rfl ?_ (Or.inl rfl)
  refine P_new (k := 81) (mk := 1) (bc2 := 5) (bs2 := 602) (n2 := 81) (pc := 47) dX9_init_47 z_CLX7 z_wX9_9 z_inX7 z_itX7 (by decide +kernel) rfl rfl (by decide +kernel) (by decide) (hz.mono (m := 80) (Nat.le_of_ble_eq_true rfl)) (z_mk (by decide) (by decide +kernel)) ?_
  refine V_dup (a := vR 81) (pc := 50) dX9_init_50 ?_ (by decide)
  refine V_sipush (x := 200) (pc := 51) dX9_init_51 (by decide) ?_
  refine P_callI (as := [vI 200]) (st := [vR 81, vR 74]) (k := 81) (bc2 := 4) (bs2 := 402) (pc := 54) dX9_init_54 z_mX7_init z_iX7_init z_wX9_11 (i_X7 (σ := σ) (P := [(74, 56), (34, 4088), (33, 0), (1, 4064)]) (n := 81) (n2 := 82) (sl := 200) hst (hz.mono (m := 81) (Nat.le_of_ble_eq_true rfl)) (by decide) (by decide) (by decide +kernel) rfl (by decide +kernel) (by decide +kernel) (by decide) rfl (by decide +kernel) (by decide +kernel)) rfl (by decide) ⟨(Nat.le_of_ble_eq_true rfl), (Nat.le_of_ble_eq_true rfl), (by decide +kernel), (by decide +kernel), (Nat.le_of_ble_eq_true rfl)⟩ ?_
  refine P_putR (j := 3) (m' := 48) (P' := [(74, 48), (34, 4088), (33, 0), (1, 4064)]) (pc := 57) dX9_init_57 z_CLX9 (by decide) z_wX9_26 rfl rfl rfl (by decide) (by decide) (by decide) (by decide +kernel) (by decide +kernel) z_h0 (z_clr (by decide +kernel) (by decide +kernel)) ?_
  refine V_aload_n (v := vR 74) (pc := 60) dX9_init_60 rfl ?_ (Or.inl rfl)
  refine P_new (k := 83) (mk := 1) (bc2 := 3) (bs2 := 401) (n2 := 83) (pc := 61) dX9_init_61 z_CLX4 z_wX9_29 z_inX4 z_itX4 (by decide +kernel) rfl rfl (by decide +kernel) (by decide) (hz.mono (m := 82) (Nat.le_of_ble_eq_true rfl)) (z_mk (by decide) (by decide +kernel)) ?_
  refine V_dup (a := vR 83) (pc := 64) dX9_init_64 ?_ (by decide)
  refine V_sipush (x := 200) (pc := 65) dX9_init_65 (by decide) ?_
  refine P_callI (as := [vI 200]) (st := [vR 83, vR 74]) (k := 83) (bc2 := 2) (bs2 := 201) (pc := 68) dX9_init_68 z_mX4_init z_iX4_init z_wX9_31 (i_X4 (σ := σ) (P := [(74, 48), (34, 4088), (33, 0), (1, 4064)]) (n := 83) (n2 := 84) (sl := 200) hst (hz.mono (m := 83) (Nat.le_of_ble_eq_true rfl)) (by decide) (by decide) (by decide +kernel) rfl (by decide +kernel) (by decide +kernel) (by decide) rfl (by decide +kernel) (by decide +kernel)) rfl (by decide) ⟨(Nat.le_of_ble_eq_true rfl), (Nat.le_of_ble_eq_true rfl), (by decide +kernel), (by decide +kernel), (Nat.le_of_ble_eq_true rfl)⟩ ?_
  refine P_putR (j := 4) (m' := 32) (P' := [(74, 32), (34, 4088), (33, 0), (1, 4064)]) (pc := 71) dX9_init_71 z_CLX9 (by decide) z_wX9_32 rfl rfl rfl (by decide) (by decide) (by decide) (by decide +kernel) (by decide +kernel) z_h0 (z_clr (by decide +kernel) (by decide +kernel)) ?_
  refine V_aload_n (v := vR 74) (pc := 74) dX9_init_74 rfl ?_ (Or.inl rfl)
  refine P_new (k := 85) (mk := 1) (bc2 := 1) (bs2 := 200) (n2 := 85) (pc := 75) dX9_init_75 z_CLX4 z_wX9_29 z_inX4 z_itX4 (by decide +kernel) rfl rfl (by decide +kernel) (by decide) (hz.mono (m := 84) (Nat.le_of_ble_eq_true rfl)) (z_mk (by decide) (by decide +kernel)) ?_
  refine V_dup (a := vR 85) (pc := 78) dX9_init_78 ?_ (by decide)
  refine V_sipush (x := 200) (pc := 79) dX9_init_79 (by decide) ?_
  refine P_callI (as := [vI 200]) (st := [vR 85, vR 74]) (k := 85) (bc2 := 0) (bs2 := 0) (pc := 82) dX9_init_82 z_mX4_init z_iX4_init z_wX9_31 (i_X4 (σ := σ) (P := [(74, 32), (34, 4088), (33, 0), (1, 4064)]) (n := 85) (n2 := 86) (sl := 200) hst (hz.mono (m := 85) (Nat.le_of_ble_eq_true rfl)) (by decide) (by decide) (by decide +kernel) rfl (by decide +kernel) (by decide +kernel) (by decide) rfl (by decide +kernel) (by decide +kernel)) rfl (by decide) ⟨(Nat.le_of_ble_eq_true rfl), (Nat.le_of_ble_eq_true rfl), (by decide +kernel), (by decide +kernel), (Nat.le_of_ble_eq_true rfl)⟩ ?_
  refine P_putR (j := 5) (m' := 0) (P' := [(74, 0), (34, 4088), (33, 0), (1, 4064)]) (pc := 85) dX9_init_85 z_CLX9 (by decide) z_wX9_36 rfl rfl rfl (by decide) (by decide) (by decide) (by decide +kernel) (by decide +kernel) z_h0 (z_clr (by decide +kernel) (by decide +kernel)) ?_
  refine P_pop (by decide +kernel) ?_
  exact P_ret (pc := 88) dX9_init_88 rfl
theorem i_X9_87 {l : Launch} {K : z_K} {σ : z_M} (hst : l.stackTraces = false) (hz : z_zs σ 87) : z_C l K mX9_init 2 35 12 1206 [vR 87] 87 (z_pd [(87, 63), (34, 4080), (33, 0), (1, 4064)]) σ (z_IQ 99 (z_pd [(34, 4080), (33, 0), (1, 4064)]) σ) := by
  refine P_of (lv := [vR 87]) hst z_mX9_init rfl ?_ (Nat.le_of_ble_eq_true rfl) rfl
  refine V_aload_n (v := vR 87) (pc := 0) dX9_init_0 rfl ?_ (Or.inl rfl)
  refine V_obj (st := []) (pc := 1) dX9_init_1 z_wX9_3 z_obj1 z_obj2 (by decide) (Nat.le_of_ble_eq_true rfl) (Nat.le_of_ble_eq_true rfl) ?_
  refine V_aload_n (v := vR 87) (pc := 4) dX9_init_4 rfl ?_ (Or.inl rfl)
  refine P_new (k := 88) (mk := 1) (bc2 := 11) (bs2 := 1205) (n2 := 88) (pc := 5) dX9_init_5 z_CLX7 z_wX9_9 z_inX7 z_itX7 (by decide +kernel) rfl rfl (by decide +kernel) (by decide) (hz.mono (m := 87) (Nat.le_of_ble_eq_true rfl)) (z_mk (by decide) (by decide +kernel)) ?_
  refine V_dup (a := vR 88) (pc := 8) dX9_init_8 ?_ (by decide)
  refine V_sipush (x := 200) (pc := 9) dX9_init_9 (by decide) ?_
  refine P_callI (as := [vI 200]) (st := [vR 88, vR 87]) (k := 88) (bc2 := 10) (bs2 := 1005) (pc := 12) dX9_init_12 z_mX7_init z_iX7_init z_wX9_11 (i_X7 (σ := σ) (P := [(87, 63), (34, 4080), (33, 0), (1, 4064)]) (n := 88) (n2 := 89) (sl := 200) hst (hz.mono (m := 88) (Nat.le_of_ble_eq_true rfl)) (by decide) (by decide) (by decide +kernel) rfl (by decide +kernel) (by decide +kernel) (by decide) rfl (by decide +kernel) (by decide +kernel)) rfl (by decide) ⟨(Nat.le_of_ble_eq_true rfl), (Nat.le_of_ble_eq_true rfl), (by decide +kernel), (by decide +kernel), (Nat.le_of_ble_eq_true rfl)⟩ ?_
  refine P_putR (j := 0) (m' := 62) (P' := [(87, 62), (34, 4080), (33, 0), (1, 4064)]) (pc := 15) dX9_init_15 z_CLX9 (by decide) z_wX9_14 rfl rfl rfl (by decide) (by decide) (by decide) (by decide +kernel) (by decide +kernel) z_h0 (z_clr (by decide +kernel) (by decide +kernel)) ?_
  refine V_aload_n (v := vR 87) (pc := 18) dX9_init_18 rfl ?_ (Or.inl rfl)
  refine P_new (k := 90) (mk := 1) (bc2 := 9) (bs2 := 1004) (n2 := 90) (pc := 19) dX9_init_19 z_CLX7 z_wX9_9 z_inX7 z_itX7 (by decide +kernel) rfl rfl (by decide +kernel) (by decide) (hz.mono (m := 89) (Nat.le_of_ble_eq_true rfl)) (z_mk (by decide) (by decide +kernel)) ?_
  refine V_dup (a := vR 90) (pc := 22) dX9_init_22 ?_ (by decide)
  refine V_sipush (x := 200) (pc := 23) dX9_init_23 (by decide) ?_
  refine P_callI (as := [vI 200]) (st := [vR 90, vR 87]) (k := 90) (bc2 := 8) (bs2 := 804) (pc := 26) dX9_init_26 z_mX7_init z_iX7_init z_wX9_11 (i_X7 (σ := σ) (P := [(87, 62), (34, 4080), (33, 0), (1, 4064)]) (n := 90) (n2 := 91) (sl := 200) hst (hz.mono (m := 90) (Nat.le_of_ble_eq_true rfl)) (by decide) (by decide) (by decide +kernel) rfl (by decide +kernel) (by decide +kernel) (by decide) rfl (by decide +kernel) (by decide +kernel)) rfl (by decide) ⟨(Nat.le_of_ble_eq_true rfl), (Nat.le_of_ble_eq_true rfl), (by decide +kernel), (by decide +kernel), (Nat.le_of_ble_eq_true rfl)⟩ ?_
  refine P_putR (j := 1) (m' := 60) (P' := [(87, 60), (34, 4080), (33, 0), (1, 4064)]) (pc := 29) dX9_init_29 z_CLX9 (by decide) z_wX9_20 rfl rfl rfl (by decide) (by decide) (by decide) (by decide +kernel) (by decide +kernel) z_h0 (z_clr (by decide +kernel) (by decide +kernel)) ?_
  refine V_aload_n (v := vR 87) (pc := 32) dX9_init_32 rfl ?_ (Or.inl rfl)
  refine P_new (k := 92) (mk := 1) (bc2 := 7) (bs2 := 803) (n2 := 92) (pc := 33) dX9_init_33 z_CLX7 z_wX9_9 z_inX7 z_itX7 (by decide +kernel) rfl rfl (by decide +kernel) (by decide) (hz.mono (m := 91) (Nat.le_of_ble_eq_true rfl)) (z_mk (by decide) (by decide +kernel)) ?_
  refine V_dup (a := vR 92) (pc := 36) dX9_init_36 ?_ (by decide)
  refine V_sipush (x := 200) (pc := 37) dX9_init_37 (by decide) ?_
  refine P_callI (as := [vI 200]) (st := [vR 92, vR 87]) (k := 92) (bc2 := 6) (bs2 := 603) (pc := 40) dX9_init_40 z_mX7_init z_iX7_init z_wX9_11 (i_X7 (σ := σ) (P := [(87, 60), (34, 4080), (33, 0), (1, 4064)]) (n := 92) (n2 := 93) (sl := 200) hst (hz.mono (m := 92) (Nat.le_of_ble_eq_true rfl)) (by decide) (by decide) (by decide +kernel) rfl (by decide +kernel) (by decide +kernel) (by decide) rfl (by decide +kernel) (by decide +kernel)) rfl (by decide) ⟨(Nat.le_of_ble_eq_true rfl), (Nat.le_of_ble_eq_true rfl), (by decide +kernel), (by decide +kernel), (Nat.le_of_ble_eq_true rfl)⟩ ?_
  refine P_putR (j := 2) (m' := 56) (P' := [(87, 56), (34, 4080), (33, 0), (1, 4064)]) (pc := 43) dX9_init_43 z_CLX9 (by decide) z_wX9_23 rfl rfl rfl (by decide) (by decide) (by decide) (by decide +kernel) (by decide +kernel) z_h0 (z_clr (by decide +kernel) (by decide +kernel)) ?_
  refine V_aload_n (v := vR 87) (pc := 46) dX9_init_46 rfl ?_ (Or.inl rfl)
  refine P_new (k := 94) (mk := 1) (bc2 := 5) (bs2 := 602) (n2 := 94) (pc := 47) dX9_init_47 z_CLX7 z_wX9_9 z_inX7 z_itX7 (by decide +kernel) rfl rfl (by decide +kernel) (by decide) (hz.mono (m := 93) (Nat.le_of_ble_eq_true rfl)) (z_mk (by decide) (by decide +kernel)) ?_
  refine V_dup (a := vR 94) (pc := 50) dX9_init_50 ?_ (by decide)
  refine V_sipush (x := 200) (pc := 51) dX9_init_51 (by decide) ?_
  refine P_callI (as := [vI 200]) (st := [vR 94, vR 87]) (k := 94) (bc2 := 4) (bs2 := 402) (pc := 54) dX9_init_54 z_mX7_init z_iX7_init z_wX9_11 (i_X7 (σ := σ) (P := [(87, 56), (34, 4080), (33, 0), (1, 4064)]) (n := 94) (n2 := 95) (sl := 200) hst (hz.mono (m := 94) (Nat.le_of_ble_eq_true rfl)) (by decide) (by decide) (by decide +kernel) rfl (by decide +kernel) (by decide +kernel) (by decide) rfl (by decide +kernel) (by decide +kernel)) rfl (by decide) ⟨(Nat.le_of_ble_eq_true rfl), (Nat.le_of_ble_eq_true rfl), (by decide +kernel), (by decide +kernel), (Nat.le_of_ble_eq_true rfl)⟩ ?_
  refine P_putR (j := 3) (m' := 48) (P' := [(87, 48), (34, 4080), (33, 0), (1, 4064)]) (pc := 57) dX9_init_57 z_CLX9 (by decide) z_wX9_26 rfl rfl rfl (by decide) (by decide) (by decide) (by decide +kernel) (by decide +kernel) z_h0 (z_clr (by decide +kernel) (by decide +kernel)) ?_
  refine V_aload_n (v := vR 87) (pc := 60) dX9_init_60 rfl ?_ (Or.inl rfl)
  refine P_new (k := 96) (mk := 1) (bc2 := 3) (bs2 := 401) (n2 := 96) (pc := 61) dX9_init_61 z_CLX4 z_wX9_29 z_inX4 z_itX4 (by decide +kernel) rfl rfl (by decide +kernel) (by decide) (hz.mono (m := 95) (Nat.le_of_ble_eq_true rfl)) (z_mk (by decide) (by decide +kernel)) ?_
  refine V_dup (a := vR 96) (pc := 64) dX9_init_64 ?_ (by decide)
  refine V_sipush (x := 200) (pc := 65) dX9_init_65 (by decide) ?_
  refine P_callI (as := [vI 200]) (st := [vR 96, vR 87]) (k := 96) (bc2 := 2) (bs2 := 201) (pc := 68) dX9_init_68 z_mX4_init z_iX4_init z_wX9_31 (i_X4 (σ := σ) (P := [(87, 48), (34, 4080), (33, 0), (1, 4064)]) (n := 96) (n2 := 97) (sl := 200) hst (hz.mono (m := 96) (Nat.le_of_ble_eq_true rfl)) (by decide) (by decide) (by decide +kernel) rfl (by decide +kernel) (by decide +kernel) (by decide) rfl (by decide +kernel) (by decide +kernel)) rfl (by decide) ⟨(Nat.le_of_ble_eq_true rfl), (Nat.le_of_ble_eq_true rfl), (by decide +kernel), (by decide +kernel), (Nat.le_of_ble_eq_true rfl)⟩ ?_
  refine P_putR (j := 4) (m' := 32) (P' := [(87, 32), (34, 4080), (33, 0), (1, 4064)]) (pc := 71) dX9_init_71 z_CLX9 (by decide) z_wX9_32 rfl rfl rfl (by decide) (by decide) (by decide) (by decide +kernel) (by decide +kernel) z_h0 (z_clr (by decide +kernel) (by decide +kernel)) ?_
  refine V_aload_n (v := vR 87) (pc := 74) dX9_init_74 rfl ?_ (Or.inl rfl)
  refine P_new (k := 98) (mk := 1) (bc2 := 1) (bs2 := 200) (n2 := 98) (pc := 75) dX9_init_75 z_CLX4 z_wX9_29 z_inX4 z_itX4 (by decide +kernel) rfl rfl (by decide +kernel) (by decide) (hz.mono (m := 97) (Nat.le_of_ble_eq_true rfl)) (z_mk (by decide) (by decide +kernel)) ?_
  refine V_dup (a := vR 98) (pc := 78) dX9_init_78 ?_ (by decide)
  refine V_sipush (x := 200) (pc := 79) dX9_init_79 (by decide) ?_
  refine P_callI (as := [vI 200]) (st := [vR 98, vR 87]) (k := 98) (bc2 := 0) (bs2 := 0) (pc := 82) dX9_init_82 z_mX4_init z_iX4_init z_wX9_31 (i_X4 (σ := σ) (P := [(87, 32), (34, 4080), (33, 0), (1, 4064)]) (n := 98) (n2 := 99) (sl := 200) hst (hz.mono (m := 98) (Nat.le_of_ble_eq_true rfl)) (by decide) (by decide) (by decide +kernel) rfl (by decide +kernel) (by decide +kernel) (by decide) rfl (by decide +kernel) (by decide +kernel)) rfl (by decide) ⟨(Nat.le_of_ble_eq_true rfl), (Nat.le_of_ble_eq_true rfl), (by decide +kernel), (by decide +kernel), (Nat.le_of_ble_eq_true rfl)⟩ ?_
  refine P_putR (j := 5) (m' := 0) (P' := [(87, 0), (34, 4080), (33, 0), (1, 4064)]) (pc := 85) dX9_init_85 z_CLX9 (by decide) z_wX9_36 rfl rfl rfl (by decide) (by decide) (by decide) (by decide +kernel) (by decide +kernel) z_h0 (z_clr (by decide +kernel) (by decide +kernel)) ?_
  refine P_pop (by decide +kernel) ?_
  exact P_ret (pc := 88) dX9_init_88 rfl
theorem i_X9_100 {l : Launch} {K : z_K} {σ : z_M} (hst : l.stackTraces = false) (hz : z_zs σ 100) : z_C l K mX9_init 2 35 12 1206 [vR 100] 100 (z_pd [(100, 63), (34, 4064), (33, 0), (1, 4064)]) σ (z_IQ 112 (z_pd [(34, 4064), (33, 0), (1, 4064)]) σ) := by
  refine P_of (lv := [vR 100]) hst z_mX9_init rfl ?_ (Nat.le_of_ble_eq_true rfl) rfl
  refine V_aload_n (v := vR 100) (pc := 0) dX9_init_0 rfl ?_ (Or.inl rfl)
  refine V_obj (st := []) (pc := 1) dX9_init_1 z_wX9_3 z_obj1 z_obj2 (by decide) (Nat.le_of_ble_eq_true rfl) (Nat.le_of_ble_eq_true rfl) ?_
  refine V_aload_n (v := vR 100) (pc := 4) dX9_init_4 rfl ?_ (Or.inl rfl)
  refine P_new (k := 101) (mk := 1) (bc2 := 11) (bs2 := 1205) (n2 := 101) (pc := 5) dX9_init_5 z_CLX7 z_wX9_9 z_inX7 z_itX7 (by decide +kernel) rfl rfl (by decide +kernel) (by decide) (hz.mono (m := 100) (Nat.le_of_ble_eq_true rfl)) (z_mk (by decide) (by decide +kernel)) ?_
  refine V_dup (a := vR 101) (pc := 8) dX9_init_8 ?_ (by decide)
  refine V_sipush (x := 200) (pc := 9) dX9_init_9 (by decide) ?_
  refine P_callI (as := [vI 200]) (st := [vR 101, vR 100]) (k := 101) (bc2 := 10) (bs2 := 1005) (pc := 12) dX9_init_12 z_mX7_init z_iX7_init z_wX9_11 (i_X7 (σ := σ) (P := [(100, 63), (34, 4064), (33, 0), (1, 4064)]) (n := 101) (n2 := 102) (sl := 200) hst (hz.mono (m := 101) (Nat.le_of_ble_eq_true rfl)) (by decide) (by decide) (by decide +kernel) rfl (by decide +kernel) (by decide +kernel) (by decide) rfl (by decide +kernel) (by decide +kernel)) rfl (by decide) ⟨(Nat.le_of_ble_eq_true rfl), (Nat.le_of_ble_eq_true rfl), (by decide +kernel), (by decide +kernel), (Nat.le_of_ble_eq_true rfl)⟩ ?_
  refine P_putR (j := 0) (m' := 62) (P' := [(100, 62), (34, 4064), (33, 0), (1, 4064)]) (pc := 15) dX9_init_15 z_CLX9 (by decide) z_wX9_14 rfl rfl rfl (by decide) (by decide) (by decide) (by decide +kernel) (by decide +kernel) z_h0 (z_clr (by decide +kernel) (by decide +kernel)) ?_
  refine V_aload_n (v := vR 100) (pc := 18) dX9_init_18 rfl ?_ (Or.inl rfl)
  refine P_new (k := 103) (mk := 1) (bc2 := 9) (bs2 := 1004) (n2 := 103) (pc := 19) dX9_init_19 z_CLX7 z_wX9_9 z_inX7 z_itX7 (by decide +kernel) rfl rfl (by decide +kernel) (by decide) (hz.mono (m := 102) (Nat.le_of_ble_eq_true rfl)) (z_mk (by decide) (by decide +kernel)) ?_
  refine V_dup (a := vR 103) (pc := 22) dX9_init_22 ?_ (by decide)
  refine V_sipush (x := 200) (pc := 23) dX9_init_23 (by decide) ?_
  refine P_callI (as := [vI 200]) (st := [vR 103, vR 100]) (k := 103) (bc2 := 8) (bs2 := 804) (pc := 26) dX9_init_26 z_mX7_init z_iX7_init z_wX9_11 (i_X7 (σ := σ) (P := [(100, 62), (34, 4064), (33, 0), (1, 4064)]) (n := 103) (n2 := 104) (sl := 200) hst (hz.mono (m := 103) (Nat.le_of_ble_eq_true rfl)) (by decide) (by decide) (by decide +kernel) rfl (by decide +kernel) (by decide +kernel) (by decide) rfl (by decide +kernel) (by decide +kernel)) rfl (by decide) ⟨(Nat.le_of_ble_eq_true rfl), (Nat.le_of_ble_eq_true rfl), (by decide +kernel), (by decide +kernel), (Nat.le_of_ble_eq_true rfl)⟩ ?_
  refine P_putR (j := 1) (m' := 60) (P' := [(100, 60), (34, 4064), (33, 0), (1, 4064)]) (pc := 29) dX9_init_29 z_CLX9 (by decide) z_wX9_20 rfl rfl rfl (by decide) (by decide) (by decide) (by decide +kernel) (by decide +kernel) z_h0 (z_clr (by decide +kernel) (by decide +kernel)) ?_
  refine V_aload_n (v := vR 100) (pc := 32) dX9_init_32 rfl ?_ (Or.inl rfl)
  refine P_new (k := 105) (mk := 1) (bc2 := 7) (bs2 := 803) (n2 := 105) (pc := 33) dX9_init_33 z_CLX7 z_wX9_9 z_inX7 z_itX7 (by decide +kernel) rfl rfl (by decide +kernel) (by decide) (hz.mono (m := 104) (Nat.le_of_ble_eq_true rfl)) (z_mk (by decide) (by decide +kernel)) ?_
  refine V_dup (a := vR 105) (pc := 36) dX9_init_36 ?_ (by decide)
  refine V_sipush (x := 200) (pc := 37) dX9_init_37 (by decide) ?_
  refine P_callI (as := [vI 200]) (st := [vR 105, vR 100]) (k := 105) (bc2 := 6) (bs2 := 603) (pc := 40) dX9_init_40 z_mX7_init z_iX7_init z_wX9_11 (i_X7 (σ := σ) (P := [(100, 60), (34, 4064), (33, 0), (1, 4064)]) (n := 105) (n2 := 106) (sl := 200) hst (hz.mono (m := 105) (Nat.le_of_ble_eq_true rfl)) (by decide) (by decide) (by decide +kernel) rfl (by decide +kernel) (by decide +kernel) (by decide) rfl (by decide +kernel) (by decide +kernel)) rfl (by decide) ⟨(Nat.le_of_ble_eq_true rfl), (Nat.le_of_ble_eq_true rfl), (by decide +kernel), (by decide +kernel), (Nat.le_of_ble_eq_true rfl)⟩ ?_
  refine P_putR (j := 2) (m' := 56) (P' := [(100, 56), (34, 4064), (33, 0), (1, 4064)]) (pc := 43) dX9_init_43 z_CLX9 (by decide) z_wX9_23 rfl rfl rfl (by decide) (by decide) (by decide) (by decide +kernel) (by decide +kernel) z_h0 (z_clr (by decide +kernel) (by decide +kernel)) ?_
  refine V_aload_n (v := vR 100) (pc := 46) dX9_init_46 rfl ?_ (Or.inl rfl)
  refine P_new (k := 107) (mk := 1) (bc2 := 5) (bs2 := 602) (n2 := 107) (pc := 47) dX9_init_47 z_CLX7 z_wX9_9 z_inX7 z_itX7 (by decide +kernel) rfl rfl (by decide +kernel) (by decide) (hz.mono (m := 106) (Nat.le_of_ble_eq_true rfl)) (z_mk (by decide) (by decide +kernel)) ?_
  refine V_dup (a := vR 107) (pc := 50) dX9_init_50 ?_ (by decide)
  refine V_sipush (x := 200) (pc := 51) dX9_init_51 (by decide) ?_
  refine P_callI (as := [vI 200]) (st := [vR 107, vR 100]) (k := 107) (bc2 := 4) (bs2 := 402) (pc := 54) dX9_init_54 z_mX7_init z_iX7_init z_wX9_11 (i_X7 (σ := σ) (P := [(100, 56), (34, 4064), (33, 0), (1, 4064)]) (n := 107) (n2 := 108) (sl := 200) hst (hz.mono (m := 107) (Nat.le_of_ble_eq_true rfl)) (by decide) (by decide) (by decide +kernel) rfl (by decide +kernel) (by decide +kernel) (by decide) rfl (by decide +kernel) (by decide +kernel)) rfl (by decide) ⟨(Nat.le_of_ble_eq_true rfl), (Nat.le_of_ble_eq_true rfl), (by decide +kernel), (by decide +kernel), (Nat.le_of_ble_eq_true rfl)⟩ ?_
  refine P_putR (j := 3) (m' := 48) (P' := [(100, 48), (34, 4064), (33, 0), (1, 4064)]) (pc := 57) dX9_init_57 z_CLX9 (by decide) z_wX9_26 rfl rfl rfl (by decide) (by decide) (by decide) (by decide +kernel) (by decide +kernel) z_h0 (z_clr (by decide +kernel) (by decide +kernel)) ?_
  refine V_aload_n (v := vR 100) (pc := 60) dX9_init_60 rfl ?_ (Or.inl rfl)
  refine P_new (k := 109) (mk := 1) (bc2 := 3) (bs2 := 401) (n2 := 109) (pc := 61) dX9_init_61 z_CLX4 z_wX9_29 z_inX4 z_itX4 (by decide +kernel) rfl rfl (by decide +kernel) (by decide) (hz.mono (m := 108) (Nat.le_of_ble_eq_true rfl)) (z_mk (by decide) (by decide +kernel)) ?_
  refine V_dup (a := vR 109) (pc := 64) dX9_init_64 ?_ (by decide)
  refine V_sipush (x := 200) (pc := 65) dX9_init_65 (by decide) ?_
  refine P_callI (as := [vI 200]) (st := [vR 109, vR 100]) (k := 109) (bc2 := 2) (bs2 := 201) (pc := 68) dX9_init_68 z_mX4_init z_iX4_init z_wX9_31 (i_X4 (σ := σ) (P := [(100, 48), (34, 4064), (33, 0), (1, 4064)]) (n := 109) (n2 := 110) (sl := 200) hst (hz.mono (m := 109) (Nat.le_of_ble_eq_true rfl)) (by decide) (by decide) (by decide +kernel) rfl (by decide +kernel) (by decide +kernel) (by decide) rfl (by decide +kernel) (by decide +kernel)) rfl (by decide) ⟨(Nat.le_of_ble_eq_true rfl), (Nat.le_of_ble_eq_true rfl), (by decide +kernel), (by decide +kernel), (Nat.le_of_ble_eq_true rfl)⟩ ?_
  refine P_putR (j := 4) (m' := 32) (P' := [(100, 32), (34, 4064), (33, 0), (1, 4064)]) (pc := 71) dX9_init_71 z_CLX9 (by decide) z_wX9_32 rfl rfl rfl (by decide) (by decide) (by decide) (by decide +kernel) (by decide +kernel) z_h0 (z_clr (by decide +kernel) (by decide +kernel)) ?_
  refine V_aload_n (v := vR 100) (pc := 74) dX9_init_74 rfl ?_ (Or.inl rfl)
  refine P_new (k := 111) (mk := 1) (bc2 := 1) (bs2 := 200) (n2 := 111) (pc := 75) dX9_init_75 z_CLX4 z_wX9_29 z_inX4 z_itX4 (by decide +kernel) rfl rfl (by decide +kernel) (by decide) (hz.mono (m := 110) (Nat.le_of_ble_eq_true rfl)) (z_mk (by decide) (by decide +kernel)) ?_
  refine V_dup (a := vR 111) (pc := 78) dX9_init_78 ?_ (by decide)
  refine V_sipush (x := 200) (pc := 79) dX9_init_79 (by decide) ?_
  refine P_callI (as := [vI 200]) (st := [vR 111, vR 100]) (k := 111) (bc2 := 0) (bs2 := 0) (pc := 82) dX9_init_82 z_mX4_init z_iX4_init z_wX9_31 (i_X4 (σ := σ) (P := [(100, 32), (34, 4064), (33, 0), (1, 4064)]) (n := 111) (n2 := 112) (sl := 200) hst (hz.mono (m := 111) (Nat.le_of_ble_eq_true rfl)) (by decide) (by decide) (by decide +kernel) rfl (by decide +kernel) (by decide +kernel) (by decide) rfl (by decide +kernel) (by decide +kernel)) rfl (by decide) ⟨(Nat.le_of_ble_eq_true rfl), (Nat.le_of_ble_eq_true rfl), (by decide +kernel), (by decide +kernel), (Nat.le_of_ble_eq_true rfl)⟩ ?_
  refine P_putR (j := 5) (m' := 0) (P' := [(100, 0), (34, 4064), (33, 0), (1, 4064)]) (pc := 85) dX9_init_85 z_CLX9 (by decide) z_wX9_36 rfl rfl rfl (by decide) (by decide) (by decide) (by decide +kernel) (by decide +kernel) z_h0 (z_clr (by decide +kernel) (by decide +kernel)) ?_
  refine P_pop (by decide +kernel) ?_
  exact P_ret (pc := 88) dX9_init_88 rfl
theorem i_X9_113 {l : Launch} {K : z_K} {σ : z_M} (hst : l.stackTraces = false) (hz : z_zs σ 113) : z_C l K mX9_init 2 35 12 1206 [vR 113] 113 (z_pd [(113, 63), (34, 4032), (33, 0), (1, 4064)]) σ (z_IQ 125 (z_pd [(34, 4032), (33, 0), (1, 4064)]) σ) := by
  refine P_of (lv := [vR 113]) hst z_mX9_init rfl ?_ (Nat.le_of_ble_eq_true rfl) rfl
  refine V_aload_n (v := vR 113) (pc := 0) dX9_init_0 rfl ?_ (Or.inl rfl)
  refine V_obj (st := []) (pc := 1) dX9_init_1 z_wX9_3 z_obj1 z_obj2 (by decide) (Nat.le_of_ble_eq_true rfl) (Nat.le_of_ble_eq_true rfl) ?_
  refine V_aload_n (v := vR 113) (pc := 4) dX9_init_4 rfl ?_ (Or.inl rfl)
  refine P_new (k := 114) (mk := 1) (bc2 := 11) (bs2 := 1205) (n2 := 114) (pc := 5) dX9_init_5 z_CLX7 z_wX9_9 z_inX7 z_itX7 (by decide +kernel) rfl rfl (by decide +kernel) (by decide) (hz.mono (m := 113) (Nat.le_of_ble_eq_true rfl)) (z_mk (by decide) (by decide +kernel)) ?_
  refine V_dup (a := vR 114) (pc := 8) dX9_init_8 ?_ (by decide)
  refine V_sipush (x := 200) (pc := 9) dX9_init_9 (by decide) ?_
  refine P_callI (as := [vI 200]) (st := [vR 114, vR 113]) (k := 114) (bc2 := 10) (bs2 := 1005) (pc := 12) dX9_init_12 z_mX7_init z_iX7_init z_wX9_11 (i_X7 (σ := σ) (P := [(113, 63), (34, 4032), (33, 0), (1, 4064)]) (n := 114) (n2 := 115) (sl := 200) hst (hz.mono (m := 114) (Nat.le_of_ble_eq_true rfl)) (by decide) (by decide) (by decide +kernel) rfl (by decide +kernel) (by decide +kernel) (by decide) rfl (by decide +kernel) (by decide +kernel)) rfl (by decide) ⟨(Nat.le_of_ble_eq_true rfl), (Nat.le_of_ble_eq_true rfl), (by decide +kernel), (by decide +kernel), (Nat.le_of_ble_eq_true rfl)⟩ ?_
  refine P_putR (j := 0) (m' := 62) (P' := [(113, 62), (34, 4032), (33, 0), (1, 4064)]) (pc := 15) dX9_init_15 z_CLX9 (by decide) z_wX9_14 rfl rfl rfl (by decide) (by decide) (by decide) (by decide +kernel) (by decide +kernel) z_h0 (z_clr (by decide +kernel) (by decide +kernel)) ?_
  refine V_aload_n (v := vR 113) (pc := 18) dX9_init_18 rfl ?_ (Or.inl rfl)
  refine P_new (k := 116) (mk := 1) (bc2 := 9) (bs2 := 1004) (n2 := 116) (pc := 19) dX9_init_19 z_CLX7 z_wX9_9 z_inX7 z_itX7 (by decide +kernel) rfl rfl (by decide +kernel) (by decide) (hz.mono (m := 115) (Nat.le_of_ble_eq_true rfl)) (z_mk (by decide) (by decide +kernel)) ?_
  refine V_dup (a := vR 116) (pc := 22) dX9_init_22 ?_ (by decide)
  refine V_sipush (x := 200) (pc := 23) dX9_init_23 (by decide) ?_
  refine P_callI (as := [vI 200]) (st := [vR 116, vR 113]) (k := 116) (bc2 := 8) (bs2 := 804) (pc := 26) dX9_init_26 z_mX7_init z_iX7_init z_wX9_11 (i_X7 (σ := σ) (P := [(113, 62), (34, 4032), (33, 0), (1, 4064)]) (n := 116) (n2 := 117) (sl := 200) hst (hz.mono (m := 116) (Nat.le_of_ble_eq_true rfl)) (by decide) (by decide) (by decide +kernel) rfl (by decide +kernel) (by decide +kernel) (by decide) rfl (by decide +kernel) (by decide +kernel)) rfl (by decide) ⟨(Nat.le_of_ble_eq_true rfl), (Nat.le_of_ble_eq_true rfl), (by decide +kernel), (by decide +kernel), (Nat.le_of_ble_eq_true rfl)⟩ ?_
  refine P_putR (j := 1) (m' := 60) (P' := [(113, 60), (34, 4032), (33, 0), (1, 4064)]) (pc := 29) dX9_init_29 z_CLX9 (by decide) z_wX9_20 rfl rfl rfl (by decide) (by decide) (by decide) (by decide +kernel) (by decide +kernel) z_h0 (z_clr (by decide +kernel) (by decide +kernel)) ?_
  refine V_aload_n (v := vR 113) (pc := 32) dX9_init_32 rfl ?_ (Or.inl rfl)
  refine P_new (k := 118) (mk := 1) (bc2 := 7) (bs2 := 803) (n2 := 118) (pc := 33) dX9_init_33 z_CLX7 z_wX9_9 z_inX7 z_itX7 (by decide +kernel) rfl rfl (by decide +kernel) (by decide) (hz.mono (m := 117) (Nat.le_of_ble_eq_true rfl)) (z_mk (by decide) (by decide +kernel)) ?_
  refine V_dup (a := vR 118) (pc := 36) dX9_init_36 ?_ (by decide)
  refine V_sipush (x := 200) (pc := 37) dX9_init_37 (by decide) ?_
  refine P_callI (as := [vI 200]) (st := [vR 118, vR 113]) (k := 118) (bc2 := 6) (bs2 := 603) (pc := 40) dX9_init_40 z_mX7_init z_iX7_init z_wX9_11 (i_X7 (σ := σ) (P := [(113, 60), (34, 4032), (33, 0), (1, 4064)]) (n := 118) (n2 := 119) (sl := 200) hst (hz.mono (m := 118) (Nat.le_of_ble_eq_true rfl)) (by decide) (by decide) (by decide +kernel) rfl (by decide +kernel) (by decide +kernel) (by decide) rfl (by decide +kernel) (by decide +kernel)) rfl (by decide) ⟨(Nat.le_of_ble_eq_true rfl), (Nat.le_of_ble_eq_true rfl), (by decide +kernel), (by decide +kernel), (Nat.le_of_ble_eq_true rfl)⟩ ?_
  refine P_putR (j := 2) (m' := 56) (P' := [(113, 56), (34, 4032), (33, 0), (1, 4064)]) (pc := 43) dX9_init_43 z_CLX9 (by decide) z_wX9_23 rfl rfl rfl (by decide) (by decide) (by decide) (by decide +kernel) (by decide +kernel) z_h0 (z_clr (by decide +kernel) (by decide +kernel)) ?_
  refine V_aload_n (v := vR 113) (pc := 46) dX9_init_46 rfl ?_ (Or.inl rfl)
  refine P_new (k := 120) (mk := 1) (bc2 := 5) (bs2 := 602) (n2 := 120) (pc := 47) dX9_init_47 z_CLX7 z_wX9_9 z_inX7 z_itX7 (by decide +kernel) rfl rfl (by decide +kernel) (by decide) (hz.mono (m := 119) (Nat.le_of_ble_eq_true rfl)) (z_mk (by decide) (by decide +kernel)) ?_
  refine V_dup (a := vR 120) (pc := 50) dX9_init_50 ?_ (by decide)
  refine V_sipush (x := 200) (pc := 51) dX9_init_51 (by decide) ?_
  refine P_callI (as := [vI 200]) (st := [vR 120, vR 113]) (k := 120) (bc2 := 4) (bs2 := 402) (pc := 54) dX9_init_54 z_mX7_init z_iX7_init z_wX9_11 (i_X7 (σ := σ) (P := [(113, 56), (34, 4032), (33, 0), (1, 4064)]) (n := 120) (n2 := 121) (sl := 200) hst (hz.mono (m := 120) (Nat.le_of_ble_eq_true rfl)) (by decide) (by decide) (by decide +kernel) rfl (by decide +kernel) (by decide +kernel) (by decide) rfl (by decide +kernel) (by decide +kernel)) rfl (by decide) ⟨(Nat.le_of_ble_eq_true rfl), (Nat.le_of_ble_eq_true rfl), (by decide +kernel), (by decide +kernel), (Nat.le_of_ble_eq_true rfl)⟩ ?_
  refine P_putR (j := 3) (m' := 48) (P' := [(113, 48), (34, 4032), (33, 0), (1, 4064)]) (pc := 57) dX9_init_57 z_CLX9 (by decide) z_wX9_26 rfl rfl rfl (by decide) (by decide) (by decide) (by decide +kernel) (by decide +kernel) z_h0 (z_clr (by decide +kernel) (by decide +kernel)) ?_
  refine V_aload_n (v := vR 113) (pc := 60) dX9_init_60 rfl ?_ (Or.inl rfl)
  refine P_new (k := 122) (mk := 1) (bc2 := 3) (bs2 := 401) (n2 := 122) (pc := 61) dX9_init_61 z_CLX4 z_wX9_29 z_inX4 z_itX4 (by decide +kernel) rfl rfl (by decide +kernel) (by decide) (hz.mono (m := 121) (Nat.le_of_ble_eq_true rfl)) (z_mk (by decide) (by decide +kernel)) ?_
  refine V_dup (a := vR 122) (pc := 64) dX9_init_64 ?_ (by decide)
  refine V_sipush (x := 200) (pc := 65) dX9_init_65 (by decide) ?_
  refine P_callI (as := [vI 200]) (st := [vR 122, vR 113]) (k := 122) (bc2 := 2) (bs2 := 201) (pc := 68) dX9_init_68 z_mX4_init z_iX4_init z_wX9_31 (i_X4 (σ := σ) (P := [(113, 48), (34, 4032), (33, 0), (1, 4064)]) (n := 122) (n2 := 123) (sl := 200) hst (hz.mono (m := 122) (Nat.le_of_ble_eq_true rfl)) (by decide) (by decide) (by decide +kernel) rfl (by decide +kernel) (by decide +kernel) (by decide) rfl (by decide +kernel) (by decide +kernel)) rfl (by decide) ⟨(Nat.le_of_ble_eq_true rfl), (Nat.le_of_ble_eq_true rfl), (by decide +kernel), (by decide +kernel), (Nat.le_of_ble_eq_true rfl)⟩ ?_
  refine P_putR (j := 4) (m' := 32) (P' := [(113, 32), (34, 4032), (33, 0), (1, 4064)]) (pc := 71) dX9_init_71 z_CLX9 (by decide) z_wX9_32 rfl rfl rfl (by decide) (by decide) (by decide) (by decide +kernel) (by decide +kernel) z_h0 (z_clr (by decide +kernel) (by decide +kernel)) ?_
  refine V_aload_n (v := vR 113) (pc := 74) dX9_init_74 rfl ?_ (Or.inl rfl)
  refine P_new (k := 124) (mk := 1) (bc2 := 1) (bs2 := 200) (n2 := 124) (pc := 75) dX9_init_75 z_CLX4 z_wX9_29 z_inX4 z_itX4 (by decide +kernel) rfl rfl (by decide +kernel) (by decide) (hz.mono (m := 123) (Nat.le_of_ble_eq_true rfl)) (z_mk (by decide) (by decide +kernel)) ?_
  refine V_dup (a := vR 124) (pc := 78) dX9_init_78 ?_ (by decide)
  refine V_sipush (x := 200) (pc := 79) dX9_init_79 (by decide) ?_
  refine P_callI (as := [vI 200]) (st := [vR 124, vR 113]) (k := 124) (bc2 := 0) (bs2 := 0) (pc := 82) dX9_init_82 z_mX4_init z_iX4_init z_wX9_31 (i_X4 (σ := σ) (P := [(113, 32), (34, 4032), (33, 0), (1, 4064)]) (n := 124) (n2 := 125) (sl := 200) hst (hz.mono (m := 124) (Nat.le_of_ble_eq_true rfl)) (by decide) (by decide) (by decide +kernel) rfl (by decide +kernel) (by decide +kernel) (by decide) rfl (by decide +kernel) (by decide +kernel)) rfl (by decide) ⟨(Nat.le_of_ble_eq_true rfl), (Nat.le_of_ble_eq_true rfl), (by decide +kernel), (by decide +kernel), (Nat.le_of_ble_eq_true rfl)⟩ ?_
  refine P_putR (j := 5) (m' := 0) (P' := [(113, 0), (34, 4032), (33, 0), (1, 4064)]) (pc := 85) dX9_init_85 z_CLX9 (by decide) z_wX9_36 rfl rfl rfl (by decide) (by decide) (by decide) (by decide +kernel) (by decide +kernel) z_h0 (z_clr (by decide +kernel) (by decide +kernel)) ?_
  refine P_pop (by decide +kernel) ?_
  exact P_ret (pc := 88) dX9_init_88 rfl
theorem i_X9_126 {l : Launch} {K : z_K} {σ : z_M} (hst : l.stackTraces = false) (hz : z_zs σ 126) : z_C l K mX9_init 2 35 12 1206 [vR 126] 126 (z_pd [(126, 63), (34, 3968), (33, 0), (1, 4064)]) σ (z_IQ 138 (z_pd [(34, 3968), (33, 0), (1, 4064)]) σ) := by
  refine P_of (lv := [vR 126]) hst z_mX9_init rfl ?_ (Nat.le_of_ble_eq_true rfl) rfl
  refine V_aload_n (v := vR 126) (pc := 0) dX9_init_0 rfl ?_ (Or.inl rfl)
  refine V_obj (st := []) (pc := 1) dX9_init_1 z_wX9_3 z_obj1 z_obj2 (by decide) (Nat.le_of_ble_eq_true rfl) (Nat.le_of_ble_eq_true rfl) ?_
  refine V_aload_n (v := vR 126) (pc := 4) dX9_init_4 rfl ?_ (Or.inl rfl)
  refine P_new (k := 127) (mk := 1) (bc2 := 11) (bs2 := 1205) (n2 := 127) (pc := 5) dX9_init_5 z_CLX7 z_wX9_9 z_inX7 z_itX7 (by decide +kernel) rfl rfl (by decide +kernel) (by decide) (hz.mono (m := 126) (Nat.le_of_ble_eq_true rfl)) (z_mk (by decide) (by decide +kernel)) ?_
  refine V_dup (a := vR 127) (pc := 8) dX9_init_8 ?_ (by decide)
  refine V_sipush (x := 200) (pc := 9) dX9_init_9 (by decide) ?_
  refine P_callI (as := [vI 200]) (st := [vR 127, vR 126]) (k := 127) (bc2 := 10) (bs2 := 1005) (pc := 12) dX9_init_12 z_mX7_init z_iX7_init z_wX9_11 (i_X7 (σ := σ) (P := [(126, 63), (34, 3968), (33, 0), (1, 4064)]) (n := 127) (n2 := 128) (sl := 200) hst (hz.mono (m := 127) (Nat.le_of_ble_eq_true rfl)) (by decide) (by decide) (by decide +kernel) rfl (by decide +kernel) (by decide +kernel) (by decide) rfl (by decide +kernel) (by decide +kernel)) rfl (by decide) ⟨(Nat.le_of_ble_eq_true rfl), (Nat.le_of_ble_eq_true rfl), (by decide +kernel), (by decide +kernel), (Nat.le_of_ble_eq_true rfl)⟩ ?_
  refine P_putR (j := 0) (m' := 62) (P' := [(126, 62), (34, 3968), (33, 0), (1, 4064)]) (pc := 15) dX9_init_15 z_CLX9 (by decide) z_wX9_14 rfl rfl rfl (by decide) (by decide) (by decide) (by decide +kernel) (by decide +kernel) z_h0 (z_clr (by decide +kernel) (by decide +kernel)) ?_
  refine V_aload_n (v := vR 126) (pc := 18) dX9_init_18 rfl ?_ (Or.inl rfl)
  refine P_new (k := 129) (mk := 1) (bc2 := 9) (bs2 := 1004) (n2 := 129) (pc := 19) dX9_init_19 z_CLX7 z_wX9_9 z_inX7 z_itX7 (by decide +kernel) rfl rfl (by decide +kernel) (by decide) (hz.mono (m := 128) (Nat.le_of_ble_eq_true rfl)) (z_mk (by decide) (by decide +kernel)) ?_
  refine V_dup (a := vR 129) (pc := 22) dX9_init_22 ?_ (by decide)
  refine V_sipush (x := 200) (pc := 23) dX9_init_23 (by decide) ?_
  refine P_callI (as := [vI 200]) (st := [vR 129, vR 126]) (k := 129) (bc2 := 8) (bs2 := 804) (pc := 26) dX9_init_26 z_mX7_init z_iX7_init z_wX9_11 (i_X7 (σ := σ) (P := [(126, 62), (34, 3968), (33, 0), (1, 4064)]) (n := 129) (n2 := 130) (sl := 200) hst (hz.mono (m := 129) (Nat.le_of_ble_eq_true rfl)) (by decide) (by decide) (by decide +kernel) rfl (by decide +kernel) (by decide +kernel) (by decide) rfl (by decide +kernel) (by decide +kernel)) rfl (by decide) ⟨(Nat.le_of_ble_eq_true rfl), (Nat.le_of_ble_eq_true rfl), (by decide +kernel), (by decide +kernel), (Nat.le_of_ble_eq_true rfl)⟩ ?_
  refine P_putR (j := 1) (m' := 60) (P' := [(126, 60), (34, 3968), (33, 0), (1, 4064)]) (pc := 29) dX9_init_29 z_CLX9 (by decide) z_wX9_20 rfl rfl rfl (by decide) (by decide) (by decide) (by decide +kernel) (by decide +kernel) z_h0 (z_clr (by decide +kernel) (by decide +kernel)) ?_
  refine V_aload_n (v := vR 126) (pc := 32) dX9_init_32 rfl ?_ (Or.inl rfl)
  refine P_new (k := 131) (mk := 1) (bc2 := 7) (bs2 := 803) (n2 := 131) (pc := 33) dX9_init_33 z_CLX7 z_wX9_9 z_inX7 z_itX7 (by decide +kernel) rfl rfl (by decide +kernel) (by decide) (hz.mono (m := 130) (Nat.le_of_ble_eq_true rfl)) (z_mk (by decide) (by decide +kernel)) ?_
  refine V_dup (a := vR 131) (pc := 36) dX9_init_36 ?_ (by decide)
  refine V_sipush (x := 200) (pc := 37) dX9_init_37 (by decide) ?_
  refine P_callI (as := [vI 200]) (st := [vR 131, vR 126]) (k := 131) (bc2 := 6) (bs2 := 603) (pc := 40) dX9_init_40 z_mX7_init z_iX7_init z_wX9_11 (i_X7 (σ := σ) (P := [(126, 60), (34, 3968), (33, 0), (1, 4064)]) (n := 131) (n2 := 132) (sl := 200) hst (hz.mono (m := 131) (Nat.le_of_ble_eq_true rfl)) (by decide) (by decide) (by decide +kernel) rfl (by decide +kernel) (by decide +kernel) (by decide) rfl (by decide +kernel) (by decide +kernel)) rfl (by decide) ⟨(Nat.le_of_ble_eq_true rfl), (Nat.le_of_ble_eq_true rfl), (by decide +kernel), (by decide +kernel), (Nat.le_of_ble_eq_true rfl)⟩ ?_
  refine P_putR (j := 2) (m' := 56) (P' := [(126, 56), (34, 3968), (33, 0), (1, 4064)]) (pc := 43) dX9_init_43 z_CLX9 (by decide) z_wX9_23 rfl rfl rfl (by decide) (by decide) (by decide) (by decide +kernel) (by decide +kernel) z_h0 (z_clr (by decide +kernel) (by decide +kernel)) ?_
  refine V_aload_n (v := vR 126) (pc := 46) dX9_init_46 rfl ?_ (Or.inl rfl)
  refine P_new (k := 133) (mk := 1) (bc2 := 5) (bs2 := 602) (n2 := 133) (pc := 47) dX9_init_47 z_CLX7 z_wX9_9 z_inX7 z_itX7 (by decide +kernel) rfl rfl (by decide +kernel) (by decide) (hz.mono (m := 132) (Nat.le_of_ble_eq_true rfl)) (z_mk (by decide) (by decide +kernel)) ?_
  refine V_dup (a := vR 133) (pc := 50) dX9_init_50 ?_ (by decide)
  refine V_sipush (x := 200) (pc := 51) dX9_init_51 (by decide) ?_
  refine P_callI (as := [vI 200]) (st := [vR 133, vR 126]) (k := 133) (bc2 := 4) (bs2 := 402) (pc := 54) dX9_init_54 z_mX7_init z_iX7_init z_wX9_11 (i_X7 (σ := σ) (P := [(126, 56), (34, 3968), (33, 0), (1, 4064)]) (n := 133) (n2 := 134) (sl := 200) hst (hz.mono (m := 133) (Nat.le_of_ble_eq_true rfl)) (by decide) (by decide) (by decide +kernel) rfl (by decide +kernel) (by decide +kernel) (by decide) rfl (by decide +kernel) (by decide +kernel)) rfl (by decide) ⟨(Nat.le_of_ble_eq_true rfl), (Nat.le_of_ble_eq_true rfl), (by decide +kernel), (by decide +kernel), (Nat.le_of_ble_eq_true rfl)⟩ ?_
  refine P_putR (j := 3) (m' := 48) (P' := [(126, 48), (34, 3968), (33, 0), (1, 4064)]) (pc := 57) dX9_init_57 z_CLX9 (by decide) z_wX9_26 rfl rfl rfl (by decide) (by decide) (by decide) (by decide +kernel) (by decide +kernel) z_h0 (z_clr (by decide +kernel) (by decide +kernel)) ?_
  refine V_aload_n (v := vR 126) (pc := 60) dX9_init_60 rfl ?_ (Or.inl rfl)
  refine P_new (k := 135) (mk := 1) (bc2 := 3) (bs2 := 401) (n2 := 135) (pc := 61) dX9_init_61 z_CLX4 z_wX9_29 z_inX4 z_itX4 (by decide +kernel) rfl rfl (by decide +kernel) (by decide) (hz.mono (m := 134) (Nat.le_of_ble_eq_true rfl)) (z_mk (by decide) (by decide +kernel)) ?_
  refine V_dup (a := vR 135) (pc := 64) dX9_init_64 ?_ (by decide)
  refine V_sipush (x := 200) (pc := 65) dX9_init_65 (by decide) ?_
  refine P_callI (as := [vI 200]) (st := [vR 135, vR 126]) (k := 135) (bc2 := 2) (bs2 := 201) (pc := 68) dX9_init_68 z_mX4_init z_iX4_init z_wX9_31 (i_X4 (σ := σ) (P := [(126, 48), (34, 3968), (33, 0), (1, 4064)]) (n := 135) (n2 := 136) (sl := 200) hst (hz.mono (m := 135) (Nat.le_of_ble_eq_true rfl)) (by decide) (by decide) (by decide +kernel) rfl (by decide +kernel) (by decide +kernel) (by decide) rfl (by decide +kernel) (by decide +kernel)) rfl (by decide) ⟨(Nat.le_of_ble_eq_true rfl), (Nat.le_of_ble_eq_true rfl), (by decide +kernel), (by decide +kernel), (Nat.le_of_ble_eq_true rfl)⟩ ?_
  refine P_putR (j := 4) (m' := 32) (P' := [(126, 32), (34, 3968), (33, 0), (1, 4064)]) (pc := 71) dX9_init_71 z_CLX9 (by decide) z_wX9_32 rfl rfl rfl (by decide) (by decide) (by decide) (by decide +kernel) (by decide +kernel) z_h0 (z_clr (by decide +kernel) (by decide +kernel)) ?_
  refine V_aload_n (v := vR 126) (pc := 74) dX9_init_74 rfl ?_ (Or.inl rfl)
  refine P_new (k := 137) (mk := 1) (bc2 := 1) (bs2 := 200) (n2 := 137) (pc := 75) dX9_init_75 z_CLX4 z_wX9_29 z_inX4 z_itX4 (by decide +kernel) rfl rfl (by decide +kernel) (by decide) (hz.mono (m := 136) (Nat.le_of_ble_eq_true rfl)) (z_mk (by decide) (by decide +kernel)) ?_
  refine V_dup (a := vR 137) (pc := 78) dX9_init_78 ?_ (by decide)
  refine V_sipush (x := 200) (pc := 79) dX9_init_79 (by decide) ?_
  refine P_callI (as := [vI 200]) (st := [vR 137, vR 126]) (k := 137) (bc2 := 0) (bs2 := 0) (pc := 82) dX9_init_82 z_mX4_init z_iX4_init z_wX9_31 (i_X4 (σ := σ) (P := [(126, 32), (34, 3968), (33, 0), (1, 4064)]) (n := 137) (n2 := 138) (sl := 200) hst (hz.mono (m := 137) (Nat.le_of_ble_eq_true rfl)) (by decide) (by decide) (by decide +kernel) rfl (by decide +kernel) (by decide +kernel) (by decide) rfl (by decide +kernel) (by decide +kernel)) rfl (by decide) ⟨(Nat.le_of_ble_eq_true rfl), (Nat.le_of_ble_eq_true rfl), (by decide +kernel), (by decide +kernel), (Nat.le_of_ble_eq_true rfl)⟩ ?_
  refine P_putR (j := 5) (m' := 0) (P' := [(126, 0), (34, 3968), (33, 0), (1, 4064)]) (pc := 85) dX9_init_85 z_CLX9 (by decide) z_wX9_36 rfl rfl rfl (by decide) (by decide) (by decide) (by decide +kernel) (by decide +kernel) z_h0 (z_clr (by decide +kernel) (by decide +kernel)) ?_
  refine P_pop (by decide +kernel) ?_
  exact P_ret (pc := 88) dX9_init_88 rfl
theorem i_X9_139 {l : Launch} {K : z_K} {σ : z_M} (hst : l.stackTraces = false) (hz : z_zs σ 139) : z_C l K mX9_init 2 35 12 1206 [vR 139] 139 (z_pd [(139, 63), (34, 3840), (33, 0), (1, 4064)]) σ (z_IQ 151 (z_pd [(34, 3840), (33, 0), (1, 4064)]) σ) := by
  refine P_of (lv := [vR 139]) hst z_mX9_init rfl ?_ (Nat.le_of_ble_eq_true rfl) rfl
  refine V_aload_n (v := vR 139) (pc := 0) dX9_init_0 rfl ?_ (Or.inl rfl)
  refine V_obj (st := []) (pc := 1) dX9_init_1 z_wX9_3 z_obj1 z_obj2 (by decide) (Nat.le_of_ble_eq_true rfl) (Nat.le_of_ble_eq_true rfl) ?_
  refine V_aload_n (v := vR 139) (pc := 4) dX9_init_4 rfl ?_ (Or.inl rfl)
  refine P_new (k := 140) (mk := 1) (bc2 := 11) (bs2 := 1205) (n2 := 140) (pc := 5) dX9_init_5 z_CLX7 z_wX9_9 z_inX7 z_itX7 (by decide +kernel) rfl rfl (by decide +kernel) (by decide) (hz.mono (m := 139) (Nat.le_of_ble_eq_true rfl)) (z_mk (by decide) (by decide +kernel)) ?_
  refine V_dup (a := vR 140) (pc := 8) dX9_init_8 ?_ (by decide)
  refine V_sipush (x := 200) (pc := 9) dX9_init_9 (by decide) ?_
  refine P_callI (as := [vI 200]) (st := [vR 140, vR 139]) (k := 140) (bc2 := 10) (bs2 := 1005) (pc := 12) dX9_init_12 z_mX7_init z_iX7_init z_wX9_11 (i_X7 (σ := σ) (P := [(139, 63), (34, 3840), (33, 0), (1, 4064)]) (n := 140) (n2 := 141) (sl := 200) hst (hz.mono (m := 140) (Nat.le_of_ble_eq_true rfl)) (by decide) (by decide) (by decide +kernel) rfl (by decide +kernel) (by decide +kernel) (by decide) rfl (by decide +kernel) (by decide +kernel)) rfl (by decide) ⟨(Nat.le_of_ble_eq_true rfl), (Nat.le_of_ble_eq_true rfl), (by decide +kernel), (by decide +kernel), (Nat.le_of_ble_eq_true rfl)⟩ ?_
  refine P_putR (j := 0) (m' := 62) (P' := [(139, 62), (34, 3840), (33, 0), (1, 4064)]) (pc := 15) dX9_init_15 z_CLX9 (by decide) z_wX9_14 rfl rfl rfl (by decide) (by decide) (by decide) (by decide +kernel) (by decide +kernel) z_h0 (z_clr (by decide +kernel) (by decide +kernel)) ?_
  refine V_aload_n (v := vR 139) (pc := 18) dX9_init_18 rfl ?_ (Or.inl rfl)
  refine P_new (k := 142) (mk := 1) (bc2 := 9) (bs2 := 1004) (n2 := 142) (pc := 19) dX9_init_19 z_CLX7 z_wX9_9 z_inX7 z_itX7 (by decide +kernel) rfl rfl (by decide +kernel) (by decide) (hz.mono (m := 141) (Nat.le_of_ble_eq_true rfl)) (z_mk (by decide) (by decide +kernel)) ?_
  refine V_dup (a := vR 142) (pc := 22) dX9_init_22 ?_ (by decide)
  refine V_sipush (x := 200) (pc := 23) dX9_init_23 (by decide) ?_
  refine P_callI (as := [vI 200]) (st := [vR 142, vR 139]) (k := 142) (bc2 := 8) (bs2 := 804) (pc := 26) dX9_init_26 z_mX7_init z_iX7_init z_wX9_11 (i_X7 (σ := σ) (P := [(139, 62), (34, 3840), (33, 0), (1, 4064)]) (n := 142) (n2 := 143) (sl := 200) hst (hz.mono (m := 142) (Nat.le_of_ble_eq_true rfl)) (by decide) (by decide) (by decide +kernel) rfl (by decide +kernel) (by decide +kernel) (by decide) rfl (by decide +kernel) (by decide +kernel)) rfl (by decide) ⟨(Nat.le_of_ble_eq_true rfl), (Nat.le_of_ble_eq_true rfl), (by decide +kernel), (by decide +kernel), (Nat.le_of_ble_eq_true rfl)⟩ ?_
  refine P_putR (j := 1) (m' := 60) (P' := [(139, 60), (34, 3840), (33, 0), (1, 4064)]) (pc := 29) dX9_init_29 z_CLX9 (by decide) z_wX9_20 rfl rfl rfl (by decide) (by decide) (by decide) (by decide +kernel) (by decide +kernel) z_h0 (z_clr (by decide +kernel) (by decide +kernel)) ?_
  refine V_aload_n (v := vR 139) (pc := 32) dX9_init_32 rfl ?_ (Or.inl rfl)
  refine P_new (k := 144) (mk := 1) (bc2 := 7) (bs2 := 803) (n2 := 144) (pc := 33) dX9_init_33 z_CLX7 z_wX9_9 z_inX7 z_itX7 (by decide +kernel) rfl rfl (by decide +kernel) (by decide) (hz.mono (m := 143) (Nat.le_of_ble_eq_true rfl)) (z_mk (by decide) (by decide +kernel)) ?_
  refine V_dup (a := vR 144) (pc := 36) dX9_init_36 ?_ (by decide)
  refine V_sipush (x := 200) (pc := 37) dX9_init_37 (by decide) ?_
  refine P_callI (as := [vI 200]) (st := [vR 144, vR 139]) (k := 144) (bc2 := 6) (bs2 := 603) (pc := 40) dX9_init_40 z_mX7_init z_iX7_init z_wX9_11 (i_X7 (σ := σ) (P := [(139, 60), (34, 3840), (33, 0), (1, 4064)]) (n := 144) (n2 := 145) (sl := 200) hst (hz.mono (m := 144) (Nat.le_of_ble_eq_true rfl)) (by decide) (by decide) (by decide +kernel) rfl (by decide +kernel) (by decide +kernel) (by decide) rfl (by decide +kernel) (by decide +kernel)) rfl (by decide) ⟨(Nat.le_of_ble_eq_true rfl), (Nat.le_of_ble_eq_true rfl), (by decide +kernel), (by decide +kernel), (Nat.le_of_ble_eq_true rfl)⟩ ?_
  refine P_putR (j := 2) (m' := 56) (P' := [(139, 56), (34, 3840), (33, 0), (1, 4064)]) (pc := 43) dX9_init_43 z_CLX9 (by decide) z_wX9_23 rfl rfl rfl (by decide) (by decide) (by decide) (by decide +kernel) (by decide +kernel) z_h0 (z_clr (by decide +kernel) (by decide +kernel)) ?_
  refine V_aload_n (v := vR 139) (pc := 46) dX9_init_46 rfl ?_ (Or.inl rfl)
  refine P_new (k := 146) (mk := 1) (bc2 := 5) (bs2 := 602) (n2 := 146) (pc := 47) dX9_init_47 z_CLX7 z_wX9_9 z_inX7 z_itX7 (by decide +kernel) rfl rfl (by decide +kernel) (by decide) (hz.mono (m := 145) (Nat.le_of_ble_eq_true rfl)) (z_mk (by decide) (by decide +kernel)) ?_
  refine V_dup (a := vR 146) (pc := 50) dX9_init_50 ?_ (by decide)
  refine V_sipush (x := 200) (pc := 51) dX9_init_51 (by decide) ?_
  refine P_callI (as := [vI 200]) (st := [vR 146, vR 139]) (k := 146) (bc2 := 4) (bs2 := 402) (pc := 54) dX9_init_54 z_mX7_init z_iX7_init z_wX9_11 (i_X7 (σ := σ) (P := [(139, 56), (34, 3840), (33, 0), (1, 4064)]) (n := 146) (n2 := 147) (sl := 200) hst (hz.mono (m := 146) (Nat.le_of_ble_eq_true rfl)) (by decide) (by decide) (by decide +kernel) rfl (by decide +kernel) (by decide +kernel) (by decide) rfl (by decide +kernel) (by decide +kernel)) rfl (by decide) ⟨(Nat.le_of_ble_eq_true rfl), (Nat.le_of_ble_eq_true rfl), (by decide +kernel), (by decide +kernel), (Nat.le_of_ble_eq_true rfl)⟩ ?_
  refine P_putR (j := 3) (m' := 48) (P' := [(139, 48), (34, 3840), (33, 0), (1, 4064)]) (pc := 57) dX9_init_57 z_CLX9 (by decide) z_wX9_26 rfl rfl rfl (by decide) (by decide) (by decide) (by decide +kernel) (by decide +kernel) z_h0 (z_clr (by decide +kernel) (by decide +kernel)) ?_
  refine V_aload_n (v := vR 139) (pc := 60) dX9_init_60 rfl ?_ (Or.inl rfl)
  refine P_new (k := 148) (mk := 1) (bc2 := 3) (bs2 := 401) (n2 := 148) (pc := 61) dX9_init_61 z_CLX4 z_wX9_29 z_inX4 z_itX4 (by decide +kernel) rfl rfl (by decide +kernel) (by decide) (hz.mono (m := 147) (Nat.le_of_ble_eq_true rfl)) (z_mk (by decide) (by decide +kernel)) ?_
  refine V_dup (a := vR 148) (pc := 64) dX9_init_64 ?_ (by decide)
  refine V_sipush (x := 200) (pc := 65) dX9_init_65 (by decide) ?_
  refine P_callI (as := [vI 200]) (st := [vR 148, vR 139]) (k := 148) (bc2 := 2) (bs2 := 201) (pc := 68) dX9_init_68 z_mX4_init z_iX4_init z_wX9_31 (i_X4 (σ := σ) (P := [(139, 48), (34, 3840), (33, 0), (1, 4064)]) (n := 148) (n2 := 149) (sl := 200) hst (hz.mono (m := 148) (Nat.le_of_ble_eq_true rfl)) (by decide) (by decide) (by decide +kernel) rfl (by decide +kernel) (by decide +kernel) (by decide) rfl (by decide +kernel) (by decide +kernel)) rfl (by decide) ⟨(Nat.le_of_ble_eq_true rfl), (Nat.le_of_ble_eq_true rfl), (by decide +kernel), (by decide +kernel), (Nat.le_of_ble_eq_true rfl)⟩ ?_
  refine P_putR (j := 4) (m' := 32) (P' := [(139, 32), (34, 3840), (33, 0), (1, 4064)]) (pc := 71) dX9_init_71 z_CLX9 (by decide) z_wX9_32 rfl rfl rfl (by decide) (by decide) (by decide) (by decide +kernel) (by decide +kernel) z_h0 (z_clr (by decide +kernel) (by decide +kernel)) ?_
  refine V_aload_n (v := vR 139) (pc := 74) dX9_init_74 rfl ?_ (Or.inl rfl)
  refine P_new (k := 150) (mk := 1) (bc2 := 1) (bs2 := 200) (n2 := 150) (pc := 75) dX9_init_75 z_CLX4 z_wX9_29 z_inX4 z_itX4 (by decide +kernel) rfl rfl (by decide +kernel) (by decide) (hz.mono (m := 149) (Nat.le_of_ble_eq_true rfl)) (z_mk (by decide) (by decide +kernel)) ?_
  refine V_dup (a := vR 150) (pc := 78) dX9_init_78 ?_ (by decide)
  refine V_sipush (x := 200) (pc := 79) dX9_init_79 (by decide) ?_
  refine P_callI (as := [vI 200]) (st := [vR 150, vR 139]) (k := 150) (bc2 := 0) (bs2 := 0) (pc := 82) dX9_init_82 z_mX4_init z_iX4_init z_wX9_31 (i_X4 (σ := σ) (P := [(139, 32), (34, 3840), (33, 0), (1, 4064)]) (n := 150) (n2 := 151) (sl := 200) hst (hz.mono (m := 150) (Nat.le_of_ble_eq_true rfl)) (by decide) (by decide) (by decide +kernel) rfl (by decide +kernel) (by decide +kernel) (by decide) rfl (by decide +kernel) (by decide +kernel)) rfl (by decide) ⟨(Nat.le_of_ble_eq_true rfl), (Nat.le_of_ble_eq_true rfl), (by decide +kernel), (by decide +kernel), (Nat.le_of_ble_eq_true rfl)⟩ ?_
  refine P_putR (j := 5) (m' := 0) (P' := [(139, 0), (34, 3840), (33, 0), (1, 4064)]) (pc := 85) dX9_init_85 z_CLX9 (by decide) z_wX9_36 rfl rfl rfl (by decide) (by decide) (by decide) (by decide +kernel) (by decide +kernel) z_h0 (z_clr (by decide +kernel) (by decide +kernel)) ?_
  refine P_pop (by decide +kernel) ?_
  exact P_ret (pc := 88) dX9_init_88 rfl
theorem i_X9_152 {l : Launch} {K : z_K} {σ : z_M} (hst : l.stackTraces = false) (hz : z_zs σ 152) : z_C l K mX9_init 2 35 12 1206 [vR 152] 152 (z_pd [(152, 63), (34, 3584), (33, 0), (1, 4064)]) σ (z_IQ 164 (z_pd [(34, 3584), (33, 0), (1, 4064)]) σ) := by
  refine P_of (lv := [vR 152]) hst z_mX9_init rfl ?_ (Nat.le_of_ble_eq_true rfl) rfl
  refine V_aload_n (v := vR 152) (pc := 0) dX9_init_0 rfl ?_ (Or.inl rfl)
  refine V_obj (st := []) (pc := 1) dX9_init_1 z_wX9_3 z_obj1 z_obj2 (by decide) (Nat.le_of_ble_eq_true rfl) (Nat.le_of_ble_eq_true rfl) ?_
  refine V_aload_n (v := vR 152) (pc := 4) dX9_init_4 rfl ?_ (Or.inl rfl)
  refine P_new (k := 153) (mk := 1) (bc2 := 11) (bs2 := 1205) (n2 := 153) (pc := 5) dX9_init_5 z_CLX7 z_wX9_9 z_inX7 z_itX7 (by decide +kernel) rfl rfl (by decide +kernel) (by decide) (hz.mono (m := 152) (Nat.le_of_ble_eq_true rfl)) (z_mk (by decide) (by decide +kernel)) ?_
  refine V_dup (a := vR 153) (pc := 8) dX9_init_8 ?_ (by decide)
  refine V_sipush (x := 200) (pc := 9) dX9_init_9 (by decide) ?_
  refine P_callI (as := [vI 200]) (st := [vR 153, vR 152]) (k := 153) (bc2 := 10) (bs2 := 1005) (pc := 12) dX9_init_12 z_mX7_init z_iX7_init z_wX9_11 (i_X7 (σ := σ) (P := [(152, 63), (34, 3584), (33, 0), (1, 4064)]) (n := 153) (n2 := 154) (sl := 200) hst (hz.mono (m := 153) (Nat.le_of_ble_eq_true rfl)) (by decide) (by decide) (by decide +kernel) rfl (by decide +kernel) (by decide +kernel) (by decide) rfl (by decide +kernel) (by decide +kernel)) rfl (by decide) ⟨(Nat.le_of_ble_eq_true rfl), (Nat.le_of_ble_eq_true rfl), (by decide +kernel), (by decide +kernel), (Nat.le_of_ble_eq_true rfl)⟩ ?_
  refine P_putR (j := 0) (m' := 62) (P' := [(152, 62), (34, 3584), (33, 0), (1, 4064)]) (pc := 15) dX9_init_15 z_CLX9 (by decide) z_wX9_14 rfl rfl rfl (by decide) (by decide) (by decide) (by decide +kernel) (by decide +kernel) z_h0 (z_clr (by decide +kernel) (by decide +kernel)) ?_
  refine V_aload_n (v := vR 152) (pc := 18) dX9_init_18 rfl ?_ (Or.inl rfl)
  refine P_new (k := 155) (mk := 1) (bc2 := 9) (bs2 := 1004) (n2 := 155) (pc := 19) dX9_init_19 z_CLX7 z_wX9_9 z_inX7 z_itX7 (by decide +kernel) rfl rfl (by decide +kernel) (by decide) (hz.mono (m := 154) (Nat.le_of_ble_eq_true rfl)) (z_mk (by decide) (by decide +kernel)) ?_
  refine V_dup (a := vR 155) (pc := 22) dX9_init_22 ?_ (by decide)
  refine V_sipush (x := 200) (pc := 23) dX9_init_23 (by decide) ?_
  refine P_callI (as := [vI 200]) (st := [vR 155, vR 152]) (k := 155) (bc2 := 8) (bs2 := 804) (pc := 26) dX9_init_26 z_mX7_init z_iX7_init z_wX9_11 (i_X7 (σ := σ) (P := [(152, 62), (34, 3584), (33, 0), (1, 4064)]) (n := 155) (n2 := 156) (sl := 200) hst (hz.mono (m := 155) (Nat.le_of_ble_eq_true rfl)) (by decide) (by decide) (by decide +kernel) rfl (by decide +kernel) (by decide +kernel) (by decide) rfl (by decide +kernel) (by decide +kernel)) rfl (by decide) ⟨(Nat.le_of_ble_eq_true rfl), (Nat.le_of_ble_eq_true rfl), (by decide +kernel), (by decide +kernel), (Nat.le_of_ble_eq_true rfl)⟩ ?_
  refine P_putR (j := 1) (m' := 60) (P' := [(152, 60), (34, 3584), (33, 0), (1, 4064)]) (pc := 29) dX9_init_29 z_CLX9 (by decide) z_wX9_20 rfl rfl rfl (by decide) (by decide) (by decide) (by decide +kernel) (by decide +kernel) z_h0 (z_clr (by decide +kernel) (by decide +kernel)) ?_
  refine V_aload_n (v := vR 152) (pc := 32) dX9_init_32 rfl ?_ (Or.inl rfl)
  refine P_new (k := 157) (mk := 1) (bc2 := 7) (bs2 := 803) (n2 := 157) (pc := 33) dX9_init_33 z_CLX7 z_wX9_9 z_inX7 z_itX7 (by decide +kernel) rfl rfl (by decide +kernel) (by decide) (hz.mono (m := 156) (Nat.le_of_ble_eq_true rfl)) (z_mk (by decide) (by decide +kernel)) ?_
  refine V_dup (a := vR 157) (pc := 36) dX9_init_36 ?_ (by decide)
  refine V_sipush (x := 200) (pc := 37) dX9_init_37 (by decide) ?_
  refine P_callI (as := [vI 200]) (st := [vR 157, vR 152]) (k := 157) (bc2 := 6) (bs2 := 603) (pc := 40) dX9_init_40 z_mX7_init z_iX7_init z_wX9_11 (i_X7 (σ := σ) (P := [(152, 60), (34, 3584), (33, 0), (1, 4064)]) (n := 157) (n2 := 158) (sl := 200) hst (hz.mono (m := 157) (Nat.le_of_ble_eq_true rfl)) (by decide) (by decide) (by decide +kernel) rfl (by decide +kernel) (by decide +kernel) (by decide) rfl (by decide +kernel) (by decide +kernel)) rfl (by decide) ⟨(Nat.le_of_ble_eq_true rfl), (Nat.le_of_ble_eq_true rfl), (by decide +kernel), (by decide +kernel), (Nat.le_of_ble_eq_true rfl)⟩ ?_
  refine P_putR (j := 2) (m' := 56) (P' := [(152, 56), (34, 3584), (33, 0), (1, 4064)]) (pc := 43) dX9_init_43 z_CLX9 (by decide) z_wX9_23 rfl rfl rfl (by decide) (by decide) (by decide) (by decide +kernel) (by decide +kernel) z_h0 (z_clr (by decide +kernel) (by decide +kernel)) ?_
  refine V_aload_n (v := vR 152) (pc := 46) dX9_init_46 rfl ?_ (Or.inl rfl)
  refine P_new (k := 159) (mk := 1) (bc2 := 5) (bs2 := 602) (n2 := 159) (pc := 47) dX9_init_47 z_CLX7 z_wX9_9 z_inX7 z_itX7 (by decide +kernel) rfl rfl (by decide +kernel) (by decide) (hz.mono (m := 158) (Nat.le_of_ble_eq_true rfl)) (z_mk (by decide) (by decide +kernel)) ?_
  refine V_dup (a := vR 159) (pc := 50) dX9_init_50 ?_ (by decide)
  refine V_sipush (x := 200) (pc := 51) dX9_init_51 (by decide) ?_
  refine P_callI (as := [vI 200]) (st := [vR 159, vR 152]) (k := 159) (bc2 := 4) (bs2 := 402) (pc := 54) dX9_init_54 z_mX7_init z_iX7_init z_wX9_11 (i_X7 (σ := σ) (P := [(152, 56), (34, 3584), (33, 0), (1, 4064)]) (n := 159) (n2 := 160) (sl := 200) hst (hz.mono (m := 159) (Nat.le_of_ble_eq_true rfl)) (by decide) (by decide) (by decide +kernel) rfl (by decide +kernel) (by decide +kernel) (by decide) rfl (by decide +kernel) (by decide +kernel)) rfl (by decide) ⟨(Nat.le_of_ble_eq_true rfl), (Nat.le_of_ble_eq_true rfl), (by decide +kernel), (by decide +kernel), (Nat.le_of_ble_eq_true rfl)⟩ ?_
  refine P_putR (j := 3) (m' := 48) (P' := [(152, 48), (34, 3584), (33, 0), (1, 4064)]) (pc := 57) dX9_init_57 z_CLX9 (by decide) z_wX9_26 rfl rfl rfl (by decide) (by decide) (by decide) (by decide +kernel) (by decide +kernel) z_h0 (z_clr (by decide +kernel) (by decide +kernel)) ?_
  refine V_aload_n (v := vR 152) (pc := 60) dX9_init_60 rfl ?_ (Or.inl rfl)
  refine P_new (k := 161) (mk := 1) (bc2 := 3) (bs2 := 401) (n2 := 161) (pc := 61) dX9_init_61 z_CLX4 z_wX9_29 z_inX4 z_itX4 (by decide +kernel) rfl rfl (by decide +kernel) (by decide) (hz.mono (m := 160) (Nat.le_of_ble_eq_true rfl)) (z_mk (by decide) (by decide +kernel)) ?_
  refine V_dup (a := vR 161) (pc := 64) dX9_init_64 ?_ (by decide)
  refine V_sipush (x := 200) (pc := 65) dX9_init_65 (by decide) ?_
  refine P_callI (as := [vI 200]) (st := [vR 161, vR 152]) (k := 161) (bc2 := 2) (bs2 := 201) (pc := 68) dX9_init_68 z_mX4_init z_iX4_init z_wX9_31 (i_X4 (σ := σ) (P := [(152, 48), (34, 3584), (33, 0), (1, 4064)]) (n := 161) (n2 := 162) (sl := 200) hst (hz.mono (m := 161) (Nat.le_of_ble_eq_true rfl)) (by decide) (by decide) (by decide +kernel) rfl (by decide +kernel) (by decide +kernel) (by decide) rfl (by decide +kernel) (by decide +kernel)) rfl (by decide) ⟨(Nat.le_of_ble_eq_true rfl), (Nat.le_of_ble_eq_true rfl), (by decide +kernel), (by decide +kernel), (Nat.le_of_ble_eq_true rfl)⟩ ?_
  refine P_putR (j := 4) (m' := 32) (P' := [(152, 32), (34, 3584), (33, 0), (1, 4064)]) (pc := 71) dX9_init_71 z_CLX9 (by decide) z_wX9_32 rfl rfl rfl (by decide) (by decide) (by decide) (by decide +kernel) (by decide +kernel) z_h0 (z_clr (by decide +kernel) (by decide +kernel)) ?_
  refine V_aload_n (v := vR 152) (pc := 74) dX9_init_74 rfl ?_ (Or.inl rfl)
  refine P_new (k := 163) (mk := 1) (bc2 := 1) (bs2 := 200) (n2 := 163) (pc := 75) dX9_init_75 z_CLX4 z_wX9_29 z_inX4 z_itX4 (by decide +kernel) rfl rfl (by decide +kernel) (by decide) (hz.mono (m := 162) (Nat.le_of_ble_eq_true rfl)) (z_mk (by decide) (by decide +kernel)) ?_
  refine V_dup (a := vR 163) (pc := 78) dX9_init_78 ?_ (by decide)
  refine V_sipush (x := 200) (pc := 79) dX9_init_79 (by decide) ?_
  refine P_callI (as := [vI 200]) (st := [vR 163, vR 152]) (k := 163) (bc2 := 0) (bs2 := 0) (pc := 82) dX9_init_82 z_mX4_init z_iX4_init z_wX9_31 (i_X4 (σ := σ) (P := [(152, 32), (34, 3584), (33, 0), (1, 4064)]) (n := 163) (n2 := 164) (sl := 200) hst (hz.mono (m := 163) (Nat.le_of_ble_eq_true rfl)) (by decide) (by decide) (by decide +kernel) rfl (by decide +kernel) (by decide +kernel) (by decide) rfl (by decide +kernel) (by decide +kernel)) rfl (by decide) ⟨(Nat.le_of_ble_eq_true rfl), (Nat.le_of_ble_eq_true rfl), (by decide +kernel), (by decide +kernel), (Nat.le_of_ble_eq_true rfl)⟩ ?_
  refine P_putR (j := 5) (m' := 0) (P' := [(152, 0), (34, 3584), (33, 0), (1, 4064)]) (pc := 85) dX9_init_85 z_CLX9 (by decide) z_wX9_36 rfl rfl rfl (by decide) (by decide) (by decide) (by decide +kernel) (by decide +kernel) z_h0 (z_clr (by decide +kernel) (by decide +kernel)) ?_
  refine P_pop (by decide +kernel) ?_
  exact P_ret (pc := 88) dX9_init_88 rfl
theorem i_X9_165 {l : Launch} {K : z_K} {σ : z_M} (hst : l.stackTraces = false) (hz : z_zs σ 165) : z_C l K mX9_init 2 35 12 1206 [vR 165] 165 (z_pd [(165, 63), (34, 3072), (33, 0), (1, 4064)]) σ (z_IQ 177 (z_pd [(34, 3072), (33, 0), (1, 4064)]) σ) := by
  refine P_of (lv := [vR 165]) hst z_mX9_init rfl ?_ (Nat.le_of_ble_eq_true rfl) rfl
  refine V_aload_n (v := vR 165) (pc := 0) dX9_init_0 rfl ?_ (Or.inl rfl)
  refine V_obj (st := []) (pc := 1) dX9_init_1 z_wX9_3 z_obj1 z_obj2 (by decide) (Nat.le_of_ble_eq_true rfl) (Nat.le_of_ble_eq_true rfl) ?_
  refine V_aload_n (v := vR 165) (pc := 4) dX9_init_4 rfl ?_ (Or.inl rfl)
  refine P_new (k := 166) (mk := 1) (bc2 := 11) (bs2 := 1205) (n2 := 166) (pc := 5) dX9_init_5 z_CLX7 z_wX9_9 z_inX7 z_itX7 (by decide +kernel) rfl rfl (by decide +kernel) (by decide) (hz.mono (m := 165) (Nat.le_of_ble_eq_true rfl)) (z_mk (by decide) (by decide +kernel)) ?_
  refine V_dup (a := vR 166) (pc := 8) dX9_init_8 ?_ (by decide)
  refine V_sipush (x := 200) (pc := 9) dX9_init_9 (by decide) ?_
  refine P_callI (as := [vI 200]) (st := [vR 166, vR 165]) (k := 166) (bc2 := 10) (bs2 := 1005) (pc := 12) dX9_init_12 z_mX7_init z_iX7_init z_wX9_11 (i_X7 (σ := σ) (P := [(165, 63), (34, 3072), (33, 0), (1, 4064)]) (n := 166) (n2 := 167) (sl := 200) hst (hz.mono (m := 166) (Nat.le_of_ble_eq_true rfl)) (by decide) (by decide) (by decide +kernel) rfl (by decide +kernel) (by decide +kernel) (by decide) rfl (by decide +kernel) (by decide +kernel)) rfl (by decide) ⟨(Nat.le_of_ble_eq_true rfl), (Nat.le_of_ble_eq_true rfl), (by decide +kernel), (by decide +kernel), (Nat.le_of_ble_eq_true rfl)⟩ ?_
  refine P_putR (j := 0) (m' := 62) (P' := [(165, 62), (34, 3072), (33, 0), (1, 4064)]) (pc := 15) dX9_init_15 z_CLX9 (by decide) z_wX9_14 rfl rfl rfl (by decide) (by decide) (by decide) (by decide +kernel) (by decide +kernel) z_h0 (z_clr (by decide +kernel) (by decide +kernel)) ?_
  refine V_aload_n (v := vR 165) (pc := 18) dX9_init_18 rfl ?_ (Or.inl rfl)
  refine P_new (k := 168) (mk := 1) (bc2 := 9) (bs2 := 1004) (n2 := 168) (pc := 19) dX9_init_19 z_CLX7 z_wX9_9 z_inX7 z_itX7 (by decide +kernel) rfl rfl (by decide +kernel) (by decide) (hz.mono (m := 167) (Nat.le_of_ble_eq_true rfl)) (z_mk (by decide) (by decide +kernel)) ?_
  refine V_dup (a := vR 168) (pc := 22) dX9_init_22 ?_ (by decide)
  refine V_sipush (x := 200) (pc := 23) dX9_init_23 (by decide) ?_
  refine P_callI (as := [vI 200]) (st := [vR 168, vR 165]) (k := 168) (bc2 := 8) (bs2 := 804) (pc := 26) dX9_init_26 z_mX7_init z_iX7_init z_wX9_11 (i_X7 (σ := σ) (P := [(165, 62), (34, 3072), (33, 0), (1, 4064)]) (n := 168) (n2 := 169) (sl := 200) hst (hz.mono (m := 168) (Nat.le_of_ble_eq_true rfl)) (by decide) (by decide) (by decide +kernel) rfl (by decide +kernel) (by decide +kernel) (by decide) rfl (by decide +kernel) (by decide +kernel)) rfl (by decide) ⟨(Nat.le_of_ble_eq_true rfl), (Nat.le_of_ble_eq_true rfl), (by decide +kernel), (by decide +kernel), (Nat.le_of_ble_eq_true rfl)⟩ ?_
  refine P_putR (j := 1) (m' := 60) (P' := [(165, 60), (34, 3072), (33, 0), (1, 4064)]) (pc := 29) dX9_init_29 z_CLX9 (by decide) z_wX9_20 rfl rfl rfl (by decide) (by decide) (by decide) (by decide +kernel) (by decide +kernel) z_h0 (z_clr (by decide +kernel) (by decide +kernel)) ?_
  refine V_aload_n (v := vR 165) (pc := 32) dX9_init_32 rfl ?_ (Or.inl rfl)
  refine P_new (k := 170) (mk := 1) (bc2 := 7) (bs2 := 803) (n2 := 170) (pc := 33) dX9_init_33 z_CLX7 z_wX9_9 z_inX7 z_itX7 (by decide +kernel) rfl rfl (by decide +kernel) (by decide) (hz.mono (m := 169) (Nat.le_of_ble_eq_true rfl)) (z_mk (by decide) (by decide +kernel)) ?_
  refine V_dup (a := vR 170) (pc := 36) dX9_init_36 ?_ (by decide)
  refine V_sipush (x := 200) (pc := 37) dX9_init_37 (by decide) ?_
  refine P_callI (as := [vI 200]) (st := [vR 170, vR 165]) (k := 170) (bc2 := 6) (bs2 := 603) (pc := 40) dX9_init_40 z_mX7_init z_iX7_init z_wX9_11 (i_X7 (σ := σ) (P := [(165, 60), (34, 3072), (33, 0), (1, 4064)]) (n := 170) (n2 := 171) (sl := 200) hst (hz.mono (m := 170) (Nat.le_of_ble_eq_true rfl)) (by decide) (by decide) (by decide +kernel) rfl (by decide +kernel) (by decide +kernel) (by decide) rfl (by decide +kernel) (by decide +kernel)) rfl (by decide) ⟨(Nat.le_of_ble_eq_true rfl), (Nat.le_of_ble_eq_true rfl), (by decide +kernel), (by decide +kernel), (Nat.le_of_ble_eq_true rfl)⟩ ?_
  refine P_putR (j := 2) (m' := 56) (P' := [(165, 56), (34, 3072), (33, 0), (1, 4064)]) (pc := 43) dX9_init_43 z_CLX9 (by decide) z_wX9_23 rfl rfl rfl (by decide) (by decide) (by decide) (by decide +kernel) (by decide +kernel) z_h0 (z_clr (by decide +kernel) (by decide +kernel)) ?_
  refine V_aload_n (v := vR 165) (pc := 46) dX9_init_46 rfl ?_ (Or.inl rfl)
  refine P_new (k := 172) (mk := 1) (bc2 := 5) (bs2 := 602) (n2 := 172) (pc := 47) dX9_init_47 z_CLX7 z_wX9_9 z_inX7 z_itX7 (by decide +kernel) rfl rfl (by decide +kernel) (by decide) (hz.mono (m := 171) (Nat.le_of_ble_eq_true rfl)) (z_mk (by decide) (by decide +kernel)) ?_
  refine V_dup (a := vR 172) (pc := 50) dX9_init_50 ?_ (by decide)
  refine V_sipush (x := 200) (pc := 51) dX9_init_51 (by decide) ?_
  refine P_callI (as := [vI 200]) (st := [vR 172, vR 165]) (k := 172) (bc2 := 4) (bs2 := 402) (pc := 54) dX9_init_54 z_mX7_init z_iX7_init z_wX9_11 (i_X7 (σ := σ) (P := [(165, 56), (34, 3072), (33, 0), (1, 4064)]) (n := 172) (n2 := 173) (sl := 200) hst (hz.mono (m := 172) (Nat.le_of_ble_eq_true rfl)) (by decide) (by decide) (by decide +kernel) rfl (by decide +kernel) (by decide +kernel) (by decide) rfl (by decide +kernel) (by decide +kernel)) rfl (by decide) ⟨(Nat.le_of_ble_eq_true rfl), (Nat.le_of_ble_eq_true rfl), (by decide +kernel), (by decide +kernel), (Nat.le_of_ble_eq_true rfl)⟩ ?_
  refine P_putR (j := 3) (m' := 48) (P' := [(165, 48), (34, 3072), (33, 0), (1, 4064)]) (pc := 57) dX9_init_57 z_CLX9 (by decide) z_wX9_26 rfl rfl rfl (by decide) (by decide) (by decide) (by decide +kernel) (by decide +kernel) z_h0 (z_clr (by decide +kernel) (by decide +kernel)) ?_
  refine V_aload_n (v := vR 165) (pc := 60) dX9_init_60 rfl ?_ (Or.inl rfl)
  refine P_new (k := 174) (mk := 1) (bc2 := 3) (bs2 := 401) (n2 := 174) (pc := 61) dX9_init_61 z_CLX4 z_wX9_29 z_inX4 z_itX4 (by decide +kernel) rfl rfl (by decide +kernel) (by decide) (hz.mono (m := 173) (Nat.le_of_ble_eq_true rfl)) (z_mk (by decide) (by decide +kernel)) ?_
  refine V_dup (a := vR 174) (pc := 64) dX9_init_64 ?_ (by decide)
  refine V_sipush (x := 200) (pc := 65) dX9_init_65 (by decide) ?_
  refine P_callI (as := [vI 200]) (st := [vR 174, vR 165]) (k := 174) (bc2 := 2) (bs2 := 201) (pc := 68) dX9_init_68 z_mX4_init z_iX4_init z_wX9_31 (i_X4 (σ := σ) (P := [(165, 48), (34, 3072), (33, 0), (1, 4064)]) (n := 174) (n2 := 175) (sl := 200) hst (hz.mono (m := 174) (Nat.le_of_ble_eq_true rfl)) (by decide) (by decide) (by decide +kernel) rfl (by decide +kernel) (by decide +kernel) (by decide) rfl (by decide +kernel) (by decide +kernel)) rfl (by decide) ⟨(Nat.le_of_ble_eq_true rfl), (Nat.le_of_ble_eq_true rfl), (by decide +kernel), (by decide +kernel), (Nat.le_of_ble_eq_true rfl)⟩ ?_
  refine P_putR (j := 4) (m' := 32) (P' := [(165, 32), (34, 3072), (33, 0), (1, 4064)]) (pc := 71) dX9_init_71 z_CLX9 (by decide) z_wX9_32 rfl rfl rfl (by decide) (by decide) (by decide) (by decide +kernel) (by decide +kernel) z_h0 (z_clr (by decide +kernel) (by decide +kernel)) ?_
  refine V_aload_n (v := vR 165) (pc := 74) dX9_init_74 rfl ?_ (Or.inl rfl)
  refine P_new (k := 176) (mk := 1) (bc2 := 1) (bs2 := 200) (n2 := 176) (pc := 75) dX9_init_75 z_CLX4 z_wX9_29 z_inX4 z_itX4 (by decide +kernel) rfl rfl (by decide +kernel) (by decide) (hz.mono (m := 175) (Nat.le_of_ble_eq_true rfl)) (z_mk (by decide) (by decide +kernel)) ?_
  refine V_dup (a := vR 176) (pc := 78) dX9_init_78 ?_ (by decide)
  refine V_sipush (x := 200) (pc := 79) dX9_init_79 (by decide) ?_
  refine P_callI (as := [vI 200]) (st := [vR 176, vR 165]) (k := 176) (bc2 := 0) (bs2 := 0) (pc := 82) dX9_init_82 z_mX4_init z_iX4_init z_wX9_31 (i_X4 (σ := σ) (P := [(165, 32), (34, 3072), (33, 0), (1, 4064)]) (n := 176) (n2 := 177) (sl := 200) hst (hz.mono (m := 176) (Nat.le_of_ble_eq_true rfl)) (by decide) (by decide) (by decide +kernel) rfl (by decide +kernel) (by decide +kernel) (by decide) rfl (by decide +kernel) (by decide +kernel)) rfl (by decide) ⟨(Nat.le_of_ble_eq_true rfl), (Nat.le_of_ble_eq_true rfl), (by decide +kernel), (by decide +kernel), (Nat.le_of_ble_eq_true rfl)⟩ ?_
  refine P_putR (j := 5) (m' := 0) (P' := [(165, 0), (34, 3072), (33, 0), (1, 4064)]) (pc := 85) dX9_init_85 z_CLX9 (by decide) z_wX9_36 rfl rfl rfl (by decide) (by decide) (by decide) (by decide +kernel) (by decide +kernel) z_h0 (z_clr (by decide +kernel) (by decide +kernel)) ?_
  refine P_pop (by decide +kernel) ?_
  exact P_ret (pc := 88) dX9_init_88 rfl
theorem i_X9_178 {l : Launch} {K : z_K} {σ : z_M} (hst : l.stackTraces = false) (hz : z_zs σ 178) : z_C l K mX9_init 2 35 12 1206 [vR 178] 178 (z_pd [(178, 63), (34, 2048), (33, 0), (1, 4064)]) σ (z_IQ 190 (z_pd [(34, 2048), (33, 0), (1, 4064)]) σ) := by
  refine P_of (lv := [vR 178]) hst z_mX9_init rfl ?_ (Nat.le_of_ble_eq_true rfl) rfl
  refine V_aload_n (v := vR 178) (pc := 0) dX9_init_0 rfl ?_ (Or.inl rfl)
  refine V_obj (st := []) (pc := 1) dX9_init_1 z_wX9_3 z_obj1 z_obj2 (by decide) (Nat.le_of_ble_eq_true rfl) (Nat.le_of_ble_eq_true rfl) ?_
  refine V_aload_n (v := vR 178) (pc := 4) dX9_init_4 rfl ?_ (Or.inl rfl)
  refine P_new (k := 179) (mk := 1) (bc2 := 11) (bs2 := 1205) (n2 := 179) (pc := 5) dX9_init_5 z_CLX7 z_wX9_9 z_inX7 z_itX7 (by decide +kernel) rfl rfl (by decide +kernel) (by decide) (hz.mono (m := 178) (Nat.le_of_ble_eq_true rfl)) (z_mk (by decide) (by decide +kernel)) ?_
  refine V_dup (a := vR 179) (pc := 8) dX9_init_8 ?_ (by decide)
  refine V_sipush (x := 200) (pc := 9) dX9_init_9 (by decide) ?_
  refine P_callI (as := [vI 200]) (st := [vR 179, vR 178]) (k := 179) (bc2 := 10) (bs2 := 1005) (pc := 12) dX9_init_12 z_mX7_init z_iX7_init z_wX9_11 (i_X7 (σ := σ) (P := [(178, 63), (34, 2048), (33, 0), (1, 4064)]) (n := 179) (n2 := 180) (sl := 200) hst (hz.mono (m := 179) (Nat.le_of_ble_eq_true rfl)) (by decide) (by decide) (by decide +kernel) rfl (by decide +kernel) (by decide +kernel) (by decide) rfl (by decide +kernel) (by decide +kernel)) rfl (by decide) ⟨(Nat.le_of_ble_eq_true rfl), (Nat.le_of_ble_eq_true rfl), (by decide +kernel), (by decide +kernel), (Nat.le_of_ble_eq_true rfl)⟩ ?_
  refine P_putR (j := 0) (m' := 62) (P' := [(178, 62), (34, 2048), (33, 0), (1, 4064)]) (pc := 15) dX9_init_15 z_CLX9 (by decide) z_wX9_14 rfl rfl rfl (by decide) (by decide) (by decide) (by decide +kernel) (by decide +kernel) z_h0 (z_clr (by decide +kernel) (by decide +kernel)) ?_
  refine V_aload_n (v := vR 178) (pc := 18) dX9_init_18 rfl ?_ (Or.inl rfl)
  refine P_new (k := 181) (mk := 1) (bc2 := 9) (bs2 := 1004) (n2 := 181) (pc := 19) dX9_init_19 z_CLX7 z_wX9_9 z_inX7 z_itX7 (by decide +kernel) rfl rfl (by decide +kernel) (by decide) (hz.mono (m := 180) (Nat.le_of_ble_eq_true rfl)) (z_mk (by decide) (by decide +kernel)) ?_
  refine V_dup (a := vR 181) (pc := 22) dX9_init_22 ?_ (by decide)
  refine V_sipush (x := 200) (pc := 23) dX9_init_23 (by decide) ?_
  refine P_callI (as := [vI 200]) (st := [vR 181, vR 178]) (k := 181) (bc2 := 8) (bs2 := 804) (pc := 26) dX9_init_26 z_mX7_init z_iX7_init z_wX9_11 (i_X7 (σ := σ) (P := [(178, 62), (34, 2048), (33, 0), (1, 4064)]) (n := 181) (n2 := 182) (sl := 200) hst (hz.mono (m := 181) (Nat.le_of_ble_eq_true rfl)) (by decide) (by decide) (by decide +kernel) rfl (by decide +kernel) (by decide +kernel) (by decide) rfl (by decide +kernel) (by decide +kernel)) rfl (by decide) ⟨(Nat.le_of_ble_eq_true rfl), (Nat.le_of_ble_eq_true rfl), (by decide +kernel), (by decide +kernel), (Nat.le_of_ble_eq_true rfl)⟩ ?_
  refine P_putR (j := 1) (m' := 60) (P' := [(178, 60), (34, 2048), (33, 0), (1, 4064)]) (pc := 29) dX9_init_29 z_CLX9 (by decide) z_wX9_20 rfl rfl rfl (by decide) (by decide) (by decide) (by decide +kernel) (by decide +kernel) z_h0 (z_clr (by decide +kernel) (by decide +kernel)) ?_
  refine V_aload_n (v := vR 178) (pc := 32) dX9_init_32 rfl ?_ (Or.inl rfl)
  refine P_new (k := 183) (mk := 1) (bc2 := 7) (bs2 := 803) (n2 := 183) (pc := 33) dX9_init_33 z_CLX7 z_wX9_9 z_inX7 z_itX7 (by decide +kernel) rfl rfl (by decide +kernel) (by decide) (hz.mono (m := 182) (Nat.le_of_ble_eq_true rfl)) (z_mk (by decide) (by decide +kernel)) ?_
  refine V_dup (a := vR 183) (pc := 36) dX9_init_36 ?_ (by decide)
  refine V_sipush (x := 200) (pc := 37) dX9_init_37 (by decide) ?_
  refine P_callI (as := [vI 200]) (st := [vR 183, vR 178]) (k := 183) (bc2 := 6) (bs2 := 603) (pc := 40) dX9_init_40 z_mX7_init z_iX7_init z_wX9_11 (i_X7 (σ := σ) (P := [(178, 60), (34, 2048), (33, 0), (1, 4064)]) (n := 183) (n2 := 184) (sl := 200) hst (hz.mono (m := 183) (Nat.le_of_ble_eq_true rfl)) (by decide) (by decide) (by decide +kernel) rfl (by decide +kernel) (by decide +kernel) (by decide) rfl (by decide +kernel) (by decide +kernel)) rfl (by decide) ⟨(Nat.le_of_ble_eq_true rfl), (Nat.le_of_ble_eq_true rfl), (by decide +kernel), (by decide +kernel), (Nat.le_of_ble_eq_true rfl)⟩ ?_
  refine P_putR (j := 2) (m' := 56) (P' := [(178, 56), (34, 2048), (33, 0), (1, 4064)]) (pc := 43) dX9_init_43 z_CLX9 (by decide) z_wX9_23 rfl rfl rfl (by decide) (by decide) (by decide) (by decide +kernel) (by decide +kernel) z_h0 (z_clr (by decide +kernel) (by decide +kernel)) ?_
  refine V_aload_n (v := vR 178) (pc := 46) dX9_init_46 rfl ?_ (Or.inl rfl)
  refine P_new (k := 185) (mk := 1) (bc2 := 5) (bs2 := 602) (n2 := 185) (pc := 47) dX9_init_47 z_CLX7 z_wX9_9 z_inX7 z_itX7 (by decide +kernel) rfl rfl (by decide +kernel) (by decide) (hz.mono (m := 184) (Nat.le_of_ble_eq_true rfl)) (z_mk (by decide) (by decide +kernel)) ?_
  refine V_dup (a := vR 185) (pc := 50) dX9_init_50 ?_ (by decide)
  refine V_sipush (x := 200) (pc := 51) dX9_init_51 (by decide) ?_
  refine P_callI (as := [vI 200]) (st := [vR 185, vR 178]) (k := 185) (bc2 := 4) (bs2 := 402) (pc := 54) dX9_init_54 z_mX7_init z_iX7_init z_wX9_11 (i_X7 (σ := σ) (P := [(178, 56), (34, 2048), (33, 0), (1, 4064)]) (n := 185) (n2 := 186) (sl := 200) hst (hz.mono (m := 185) (Nat.le_of_ble_eq_true rfl)) (by decide) (by decide) (by decide +kernel) rfl (by decide +kernel) (by decide +kernel) (by decide) rfl (by decide +kernel) (by decide +kernel)) rfl (by decide) ⟨(Nat.le_of_ble_eq_true rfl), (Nat.le_of_ble_eq_true rfl), (by decide +kernel), (by decide +kernel), (Nat.le_of_ble_eq_true rfl)⟩ ?_
  refine P_putR (j := 3) (m' := 48) (P' := [(178, 48), (34, 2048), (33, 0), (1, 4064)]) (pc := 57) dX9_init_57 z_CLX9 (by decide) z_wX9_26 rfl rfl rfl (by decide) (by decide) (by decide) (by decide +kernel) (by decide +kernel) z_h0 (z_clr (by decide +kernel) (by decide +kernel)) ?_
  refine V_aload_n (v := vR 178) (pc := 60) dX9_init_60 rfl ?_ (Or.inl rfl)
  refine P_new (k := 187) (mk := 1) (bc2 := 3) (bs2 := 401) (n2 := 187) (pc := 61) dX9_init_61 z_CLX4 z_wX9_29 z_inX4 z_itX4 (by decide +kernel) rfl rfl (by decide +kernel) (by decide) (hz.mono (m := 186) (Nat.le_of_ble_eq_true rfl)) (z_mk (by decide) (by decide +kernel)) ?_
  refine V_dup (a := vR 187) (pc := 64) dX9_init_64 ?_ (by decide)
  refine V_sipush (x := 200) (pc := 65) dX9_init_65 (by decide) ?_
  refine P_callI (as := [vI 200]) (st := [vR 187, vR 178]) (k := 187) (bc2 := 2) (bs2 := 201) (pc := 68) dX9_init_68 z_mX4_init z_iX4_init z_wX9_31 (i_X4 (σ := σ) (P := [(178, 48), (34, 2048), (33, 0), (1, 4064)]) (n := 187) (n2 := 188) (sl := 200) hst (hz.mono (m := 187) (Nat.le_of_ble_eq_true rfl)) (by decide) (by decide) (by decide +kernel) rfl (by decide +kernel) (by decide +kernel) (by decide) rfl (by decide +kernel) (by decide +kernel)) rfl (by decide) ⟨(Nat.le_of_ble_eq_true rfl), (Nat.le_of_ble_eq_true rfl), (by decide +kernel), (by decide +kernel), (Nat.le_of_ble_eq_true rfl)⟩ ?_
  refine P_putR (j := 4) (m' := 32) (P' := [(178, 32), (34, 2048), (33, 0), (1, 4064)]) (pc := 71) dX9_init_71 z_CLX9 (by decide) z_wX9_32 rfl rfl rfl (by decide) (by decide) (by decide) (by decide +kernel) (by decide +kernel) z_h0 (z_clr (by decide +kernel) (by decide +kernel)) ?_
  refine V_aload_n (v := vR 178) (pc := 74) dX9_init_74 rfl ?_ (Or.inl rfl)
  refine P_new (k := 189) (mk := 1) (bc2 := 1) (bs2 := 200) (n2 := 189) (pc := 75) dX9_init_75 z_CLX4 z_wX9_29 z_inX4 z_itX4 (by decide +kernel) rfl rfl (by decide +kernel) (by decide) (hz.mono (m := 188) (Nat.le_of_ble_eq_true rfl)) (z_mk (by decide) (by decide +kernel)) ?_
  refine V_dup (a := vR 189) (pc := 78) dX9_init_78 ?_ (by decide)
  refine V_sipush (x := 200) (pc := 79) dX9_init_79 (by decide) ?_
  refine P_callI (as := [vI 200]) (st := [vR 189, vR 178]) (k := 189) (bc2 := 0) (bs2 := 0) (pc := 82) dX9_init_82 z_mX4_init z_iX4_init z_wX9_31 (i_X4 (σ := σ) (P := [(178, 32), (34, 2048), (33, 0), (1, 4064)]) (n := 189) (n2 := 190) (sl := 200) hst (hz.mono (m := 189) (Nat.le_of_ble_eq_true rfl)) (by decide) (by decide) (by decide +kernel) rfl (by decide +kernel) (by decide +kernel) (by decide) rfl (by decide +kernel) (by decide +kernel)) rfl (by decide) ⟨(Nat.le_of_ble_eq_true rfl), (Nat.le_of_ble_eq_true rfl), (by decide +kernel), (by decide +kernel), (Nat.le_of_ble_eq_true rfl)⟩ ?_
  refine P_putR (j := 5) (m' := 0) (P' := [(178, 0), (34, 2048), (33, 0), (1, 4064)]) (pc := 85) dX9_init_85 z_CLX9 (by decide) z_wX9_36 rfl rfl rfl (by decide) (by decide) (by decide) (by decide +kernel) (by decide +kernel) z_h0 (z_clr (by decide +kernel) (by decide +kernel)) ?_
  refine P_pop (by decide +kernel) ?_
  exact P_ret (pc := 88) dX9_init_88 rfl
theorem i_X2_33 {l : Launch} {K : z_K} {σ : z_M} (hst : l.stackTraces = false) (hz : z_zs σ 33) : z_C l K mX2_init 3 55 157 14592 [vR 33] 33 (z_pd [(33, 1), (1, 4064)]) σ (z_IQ 190 (z_pd [(1, 4064)]) σ) := by
  refine P_of (lv := [vR 33, vU]) hst z_mX2_init rfl ?_ (Nat.le_of_ble_eq_true rfl) rfl
  refine V_aload_n (v := vR 33) (pc := 0) dX2_init_0 rfl ?_ (Or.inl rfl)
  refine V_obj (st := []) (pc := 1) dX2_init_1 z_wX2_3 z_obj1 z_obj2 (by decide) (Nat.le_of_ble_eq_true rfl) (Nat.le_of_ble_eq_true rfl) ?_
  refine V_aload_n (v := vR 33) (pc := 4) dX2_init_4 rfl ?_ (Or.inl rfl)
  refine V_bipush (x := 12) (pc := 5) dX2_init_5 (by decide) ?_
  refine P_anew (k := 34) (len := 12) (mk := 4095) (bc2 := 156) (bs2 := 14580) (n2 := 34) (pc := 7) dX2_init_7 z_wX2_9 (by decide +kernel) rfl rfl (by decide +kernel) (by decide) (by decide) (hz.mono (m := 33) (Nat.le_of_ble_eq_true rfl)) (z_mk (by decide) (by decide +kernel)) ?_
  refine P_putR (j := 0) (m' := 0) (P' := [(34, 4095), (33, 0), (1, 4064)]) (pc := 10) dX2_init_10 z_CLX2 (by decide) z_wX2_11 rfl rfl rfl (by decide) (by decide) (by decide) (by decide +kernel) (by decide +kernel) (z_h1 (by decide)) (z_clr (by decide +kernel) (by decide +kernel)) ?_
  refine V_iconst (x := 0) (pc := 13) dX2_init_13 (by decide) ?_
  refine V_istore_n (x := 0) (lv' := [vR 33, vI 0]) (pc := 14) dX2_init_14 rfl ?_ (by decide)
  refine V_iload_n (x := 0) (pc := 15) dX2_init_15 rfl ?_
  refine V_aload_n (v := vR 33) (pc := 16) dX2_init_16 rfl ?_ (Or.inl rfl)
  refine V_getR (r := 34) (j := 0) (pc := 17) dX2_init_17 z_CLX2 (by decide) z_wX2_11 (by decide) (by decide) (by decide) (by decide +kernel) (by decide +kernel) ?_
  refine V_alen (x := 12) (c := 104) (t0 := 4) (ty := .object RX9) (pc := 20) dX2_init_20 (by decide) (by decide) (by decide +kernel) (by decide +kernel) ?_ (by decide) rfl (by decide)
  refine V_icmp_ge (tgt := 43) (pc := 21) dX2_init_21 (fun h => absurd h (by decide)) (fun _ => ?_) (by decide)
  refine V_aload_n (v := vR 33) (pc := 24) dX2_init_24 rfl ?_ (Or.inl rfl)
  refine V_getR (r := 34) (j := 0) (pc := 25) dX2_init_25 z_CLX2 (by decide) z_wX2_11 (by decide) (by decide) (by decide) (by decide +kernel) (by decide +kernel) ?_
  refine V_iload_n (x := 0) (pc := 28) dX2_init_28 rfl ?_
  refine P_new (k := 35) (mk := 63) (bc2 := 155) (bs2 := 14571) (n2 := 35) (pc := 29) dX2_init_29 z_CLX9 z_wX2_9 z_inX9 z_itX9 (by decide +kernel) rfl rfl (by decide +kernel) (by decide) (hz.mono (m := 34) (Nat.le_of_ble_eq_true rfl)) (z_mk (by decide) (by decide +kernel)) ?_
  refine V_dup (a := vR 35) (pc := 32) dX2_init_32 ?_ (by decide)
  refine P_callIN (as := []) (st := [vR 35, vI 0, vR 34]) (k := 35) (bc2 := 143) (bs2 := 13365) (pc := 33) dX2_init_33 z_mX9_init z_iX9_init ⟨rfl, (Or.inr ⟨rfl, rfl⟩)⟩ (i_X9_35 (σ := σ) hst (hz.mono (m := 35) (Nat.le_of_ble_eq_true rfl))) rfl (by decide) ⟨(Nat.le_of_ble_eq_true rfl), (Nat.le_of_ble_eq_true rfl), (by decide +kernel), (by decide +kernel), (Nat.le_of_ble_eq_true rfl)⟩ ?_
  refine P_aast (j := 0) (m' := 4094) (P' := [(34, 4094), (33, 0), (1, 4064)]) (pc := 36) dX2_init_36 (by decide) (by decide) (by decide +kernel) rfl (by decide +kernel) (by decide) (by decide) (by decide +kernel) (by decide +kernel) z_h0 (z_clr (by decide +kernel) (by decide +kernel)) ?_
  refine V_iinc (x := 0) (y := 1) (lv' := [vR 33, vI 1]) (pc := 37) dX2_init_37 rfl (by decide +kernel) rfl ?_ (by decide)
  refine V_goto (tgt := 15) (pc := 40) dX2_init_40 ?_ (by decide)
  refine V_iload_n (x := 1) (pc := 15) dX2_init_15 rfl ?_
  refine V_aload_n (v := vR 33) (pc := 16) dX2_init_16 rfl ?_ (Or.inl rfl)
  refine V_getR (r := 34) (j := 0) (pc := 17) dX2_init_17 z_CLX2 (by decide) z_wX2_11 (by decide) (by decide) (by decide) (by decide +kernel) (by decide +kernel) ?_
  refine V_alen (x := 12) (c := 104) (t0 := 4) (ty := .object RX9) (pc := 20) dX2_init_20 (by decide) (by decide) (by decide +kernel) (by decide +kernel) ?_ (by decide) rfl (by decide)
  refine V_icmp_ge (tgt := 43) (pc := 21) dX2_init_21 (fun h => absurd h (by decide)) (fun _ => ?_) (by decide)
  refine V_aload_n (v := vR 33) (pc := 24) dX2_init_24 rfl ?_ (Or.inl rfl)
  refine V_getR (r := 34) (j := 0) (pc := 25) dX2_init_25 z_CLX2 (by decide) z_wX2_11 (by decide) (by decide) (by decide) (by decide +kernel) (by decide +kernel) ?_
  refine V_iload_n (x := 1) (pc := 28) dX2_init_28 rfl ?_
  refine P_new (k := 48) (mk := 63) (bc2 := 142) (bs2 := 13356) (n2 := 48) (pc := 29) dX2_init_29 z_CLX9 z_wX2_9 z_inX9 z_itX9 (by decide +kernel) rfl rfl (by decide +kernel) (by decide) (hz.mono (m := 47) (Nat.le_of_ble_eq_true rfl)) (z_mk (by decide) (by decide +kernel)) ?_
  refine V_dup (a := vR 48) (pc := 32) dX2_init_32 ?_ (by decide)
  refine P_callIN (as := []) (st := [vR 48, vI 1, vR 34]) (k := 48) (bc2 := 130) (bs2 := 12150) (pc := 33) dX2_init_33 z_mX9_init z_iX9_init ⟨rfl, (Or.inr ⟨rfl, rfl⟩)⟩ (i_X9_48 (σ := σ) hst (hz.mono (m := 48) (Nat.le_of_ble_eq_true rfl))) rfl (by decide) ⟨(Nat.le_of_ble_eq_true rfl), (Nat.le_of_ble_eq_true rfl), (by decide +kernel), (by decide +kernel), (Nat.le_of_ble_eq_true rfl)⟩ ?_
  refine P_aast (j := 1) (m' := 4092) (P' := [(34, 4092), (33, 0), (1, 4064)]) (pc := 36) dX2_init_36 (by decide) (by decide) (by decide +kernel) rfl (by decide +kernel) (by decide) (by decide) (by decide +kernel) (by decide +kernel) z_h0 (z_clr (by decide +kernel) (by decide +kernel)) ?_
  refine V_iinc (x := 1) (y := 2) (lv' := [vR 33, vI 2]) (pc := 37) dX2_init_37 rfl (by decide +kernel) rfl ?_ (by decide)
  refine V_goto (tgt := 15) (pc := 40) dX2_init_40 ?_ (by decide)
  refine V_iload_n (x := 2) (pc := 15) dX2_init_15 rfl ?_
  refine V_aload_n (v := vR 33) (pc := 16) dX2_init_16 rfl ?_ (Or.inl rfl)
  refine V_getR (r := 34) (j := 0) (pc := 17) dX2_init_17 z_CLX2 (by decide) z_wX2_11 (by decide) (by decide) (by decide) (by decide +kernel) (by decide +kernel) ?_
  refine V_alen (x := 12) (c := 104) (t0 := 4) (ty := .object RX9) (pc := 20) dX2_init_20 (by decide) (by decide) (by decide +kernel) (by decide +kernel) ?_ (by decide) rfl (by decide)
  refine V_icmp_ge (tgt := 43) (pc := 21) dX2_init_21 (fun h => absurd h (by decide)) (fun _ => ?_) (by decide)
  refine V_aload_n (v := vR 33) (pc := 24) dX2_init_24 rfl ?_ (Or.inl rfl)
  refine V_getR (r := 34) (j := 0) (pc := 25) dX2_init_25 z_CLX2 (by decide) z_wX2_11 (by decide) (by decide) (by decide) (by decide +kernel) (by decide +kernel) ?_
  refine V_iload_n (x := 2) (pc := 28) dX2_init_28 rfl ?_
  refine P_new (k := 61) (mk := 63) (bc2 := 129) (bs2 := 12141) (n2 := 61) (pc := 29) dX2_init_29 z_CLX9 z_wX2_9 z_inX9 z_itX9 (by decide +kernel) rfl rfl (by decide +kernel) (by decide) (hz.mono (m := 60) (Nat.le_of_ble_eq_true rfl)) (z_mk (by decide) (by decide +kernel)) ?_
  refine V_dup (a := vR 61) (pc := 32) dX2_init_32 ?_ (by decide)
  refine P_callIN (as := []) (st := [vR 61, vI 2, vR 34]) (k := 61) (bc2 := 117) (bs2 := 10935) (pc := 33) dX2_init_33 z_mX9_init z_iX9_init ⟨rfl, (Or.inr ⟨rfl, rfl⟩)⟩ (i_X9_61 (σ := σ) hst (hz.mono (m := 61) (Nat.le_of_ble_eq_true rfl))) rfl (by decide) ⟨(Nat.le_of_ble_eq_true rfl), (Nat.le_of_ble_eq_true rfl), (by decide +kernel), (by decide +kernel), (Nat.le_of_ble_eq_true rfl)⟩ ?_
  refine P_aast (j := 2) (m' := 4088) (P' := [(34, 4088), (33, 0), (1, 4064)]) (pc := 36) dX2_init_36 (by decide) (by decide) (by decide +kernel) rfl (by decide +kernel) (by decide) (by decide) (by decide +kernel) (by decide +kernel) z_h0 (z_clr (by decide +kernel) (by decide +kernel)) ?_
  refine V_iinc (x := 2) (y := 3) (lv' := [vR 33, vI 3]) (pc := 37) dX2_init_37 rfl (by decide +kernel) rfl ?_ (by decide)
  refine V_goto (tgt := 15) (pc := 40) dX2_init_40 ?_ (by decide)
  refine V_iload_n (x := 3) (pc := 15) dX2_init_15 rfl ?_
  refine V_aload_n (v := vR 33) (pc := 16) dX2_init_16 rfl ?_ (Or.inl rfl)
  refine V_getR (r := 34) (j := 0) (pc := 17) dX2_init_17 z_CLX2 (by decide) z_wX2_11 (by decide) (by decide) (by decide) (by decide +kernel) (by decide +kernel) ?_
  refine V_alen (x := 12) (c := 104) (t0 := 4) (ty := .object RX9) (pc := 20) dX2_init_20 (by decide) (by decide) (by decide +kernel) (by decide +kernel) ?_ (by decide) rfl (by decide)
  refine V_icmp_ge (tgt := 43) (pc := 21) dX2_init_21 (fun h => absurd h (by decide)) (fun _ => ?_) (by decide)
  refine V_aload_n (v := vR 33) (pc := 24) dX2_init_24 rfl ?_ (Or.inl rfl)
  refine V_getR (r := 34) (j := 0) (pc := 25) dX2_init_25 z_CLX2 (by decide) z_wX2_11 (by decide) (by decide) (by decide) (by decide +kernel) (by decide +kernel) ?_
  refine V_iload_n (x := 3) (pc := 28) dX2_init_28 rfl ?_
  refine P_new (k := 74) (mk := 63) (bc2 := 116) (bs2 := 10926) (n2 := 74) (pc := 29) dX2_init_29 z_CLX9 z_wX2_9 z_inX9 z_itX9 (by decide +kernel) rfl rfl (by decide +kernel) (by decide) (hz.mono (m := 73) (Nat.le_of_ble_eq_true rfl)) (z_mk (by decide) (by decide +kernel)) ?_
  refine V_dup (a := vR 74) (pc := 32) dX2_init_32 ?_ (by decide)
  refine P_callIN (as := []) (st := [vR 74, vI 3, vR 34]) (k := 74) (bc2 := 104) (bs2 := 9720) (pc := 33) dX2_init_33 z_mX9_init z_iX9_init ⟨rfl, (Or.inr ⟨rfl, rfl⟩)⟩ (i_X9_74 (σ := σ) hst (hz.mono (m := 74) (Nat.le_of_ble_eq_true rfl))) rfl (by decide) ⟨(Nat.le_of_ble_eq_true rfl), (Nat.le_of_ble_eq_true rfl), (by decide +kernel), (by decide +kernel), (Nat.le_of_ble_eq_true rfl)⟩ ?_
  refine P_aast (j := 3) (m' := 4080) (P' := [(34, 4080), (33, 0), (1, 4064)]) (pc := 36) dX2_init_36 (by decide) (by decide) (by decide +kernel) rfl (by decide +kernel) (by decide) (by decide) (by decide +kernel) (by decide +kernel) z_h0 (z_clr (by decide +kernel) (by decide +kernel)) ?_
  refine V_iinc (x := 3) (y := 4) (lv' := [vR 33, vI 4]) (pc := 37) dX2_init_37 rfl (by decide +kernel) rfl ?_ (by decide)
  refine V_goto (tgt := 15) (pc := 40) dX2_init_40 ?_ (by decide)
  refine V_iload_n (x := 4) (pc := 15) dX2_init_15 rfl ?_
  refine V_aload_n (v := vR 33) (pc := 16) dX2_init_16 rfl ?_ (Or.inl rfl)
  refine V_getR (r := 34) (j := 0) (pc := 17) dX2_init_17 z_CLX2 (by decide) z_wX2_11 (by decide) (by decide) (by decide) (by decide +kernel) (by decide +kernel) ?_
  refine V_alen (x := 12) (c := 104) (t0 := 4) (ty := .object RX9) (pc := 20) dX2_init_20 (by decide) (by decide) (by decide +kernel) (by decide +kernel) ?_ (by decide) rfl (by decide)
  refine V_icmp_ge (tgt := 43) (pc := 21) dX2_init_21 (fun h => absurd h (by decide)) (fun _ => ?_) (by decide)
  refine V_aload_n (v := vR 33) (pc := 24) dX2_init_24 rfl ?_ (Or.inl rfl)
  refine V_getR (r := 34) (j := 0) (pc := 25) dX2_init_25 z_CLX2 (by decide) z_wX2_11 (by decide) (by decide) (by decide) (by decide +kernel) (by decide +kernel) ?_
  refine V_iload_n (x := 4) (pc := 28) dX2_init_28 rfl ?_
  refine P_new (k := 87) (mk := 63) (bc2 := 103) (bs2 := 9711) (n2 := 87) (pc := 29) dX2_init_29 z_CLX9 z_wX2_9 z_inX9 z_itX9 (by decide +kernel) rfl rfl (by decide +kernel) (by decide) (hz.mono (m := 86) (Nat.le_of_ble_eq_true rfl)) (z_mk (by decide) (by decide +kernel)) ?_
  refine V_dup (a := vR 87) (pc := 32) dX2_init_32 ?_ (by decide)
  refine P_callIN (as := []) (st := [vR 87, vI 4, vR 34]) (k := 87) (bc2 := 91) (bs2 := 8505) (pc := 33) dX2_init_33 z_mX9_init z_iX9_init ⟨rfl, (Or.inr ⟨rfl, rfl⟩)⟩ (i_X9_87 (σ := σ) hst (hz.mono (m := 87) (Nat.le_of_ble_eq_true rfl))) rfl (by decide) ⟨(Nat.le_of_ble_eq_true rfl), (Nat.le_of_ble_eq_true rfl), (by decide +kernel), (by decide +kernel), (Nat.le_of_ble_eq_true rfl)⟩ ?_
  refine P_aast (j := 4) (m' := 4064) (P' := [(34, 4064), (33, 0), (1, 4064)]) (pc := 36) dX2_init_36 (by decide) (by decide) (by decide +kernel) rfl (by decide +kernel) (by decide) (by decide) (by decide +kernel) (by decide +kernel) z_h0 (z_clr (by decide +kernel) (by decide +kernel)) ?_
  refine V_iinc (x := 4) (y := 5) (lv' := [vR 33, vI 5]) (pc := 37) dX2_init_37 rfl (by decide +kernel) rfl ?_ (by decide)
  refine V_goto (tgt := 15) (pc := 40) dX2_init_40 ?_ (by decide)
  refine V_iload_n (x := 5) (pc := 15) dX2_init_15 rfl ?_
  refine V_aload_n (v := vR 33) (pc := 16) dX2_init_16 rfl ?_ (Or.inl rfl)
  refine V_getR (r := 34) (j := 0) (pc := 17) dX2_init_17 z_CLX2 (by decide) z_wX2_11 (by decide) (by decide) (by decide) (by decide +kernel) (by decide +kernel) ?_
  refine V_alen (x := 12) (c := 104) (t0 := 4) (ty := .object RX9) (pc := 20) dX2_init_20 (by decide) (by decide) (by decide +kernel) (by decide +kernel) ?_ (by decide) rfl (by decide)
  refine V_icmp_ge (tgt := 43) (pc := 21) dX2_init_21 (fun h => absurd h (by decide)) (fun _ => ?_) (by decide)
  refine V_aload_n (v := vR 33) (pc := 24) dX2_init_24 rfl ?_ (Or.inl rfl)
  refine V_getR (r := 34) (j := 0) (pc := 25) dX2_init_25 z_CLX2 (by decide) z_wX2_11 (by decide) (by decide) (by decide) (by decide +kernel) (by decide +kernel) ?_
  refine V_iload_n (x := 5) (pc := 28) dX2_init_28 rfl ?_
  refine P_new (k := 100) (mk := 63) (bc2 := 90) (bs2 := 8496) (n2 := 100) (pc := 29) dX2_init_29 z_CLX9 z_wX2_9 z_inX9 z_itX9 (by decide +kernel) rfl rfl (by decide +kernel) (by decide) (hz.mono (m := 99) (Nat.le_of_ble_eq_true rfl)) (z_mk (by decide) (by decide +kernel)) ?_
  refine V_dup (a := vR 100) (pc := 32) dX2_init_32 ?_ (by decide)
  refine P_callIN (as := []) (st := [vR 100, vI 5, vR 34]) (k := 100) (bc2 := 78) (bs2 := 7290) (pc := 33) dX2_init_33 z_mX9_init z_iX9_init ⟨rfl, (Or.inr ⟨rfl, rfl⟩)⟩ (i_X9_100 (σ := σ) hst (hz.mono (m := 100) (Nat.le_of_ble_eq_true rfl))) rfl (by decide) ⟨(Nat.le_of_ble_eq_true rfl), (Nat.le_of_ble_eq_true rfl), (by decide +kernel), (by decide +kernel), (Nat.le_of_ble_eq_true rfl)⟩ ?_
  refine P_aast (j := 5) (m' := 4032) (P' := [(34, 4032), (33, 0), (1, 4064)]) (pc := 36) dX2_init_36 (by decide) (by decide) (by decide +kernel) rfl (by decide +kernel) (by decide) (by decide) (by decide +kernel) (by decide +kernel) z_h0 (z_clr (by decide +kernel) (by decide +kernel)) ?_
  refine V_iinc (x := 5) (y := 6) (lv' := [vR 33, vI 6]) (pc := 37) dX2_init_37 rfl (by decide +kernel) rfl ?_ (by decide)
  refine V_goto (tgt := 15) (pc := 40) dX2_init_40 ?_ (by decide)
  refine V_iload_n (x := 6) (pc := 15) dX2_init_15 rfl ?_
  refine V_aload_n (v := vR 33) (pc := 16) dX2_init_16 rfl ?_ (Or.inl rfl)
  refine V_getR (r := 34) (j := 0) (pc := 17) dX2_init_17 z_CLX2 (by decide) z_wX2_11 (by decide) (by decide) (by decide) (by decide +kernel) (by decide +kernel) ?_
  refine V_alen (x := 12) (c := 104) (t0 := 4) (ty := .object RX9) (pc := 20) dX2_init_20 (by decide) (by decide) (by decide +kernel) (by decide +kernel) ?_ (by decide) rfl (by decide)
  refine V_icmp_ge (tgt := 43) (pc := 21) dX2_init_21 (fun h => absurd h (by decide)) (fun _ => ?_) (by decide)
  refine V_aload_n (v := vR 33) (pc := 24) dX2_init_24 rfl ?_ (Or.inl rfl)
  refine V_getR (r := 34) (j := 0) (pc := 25) dX2_init_25 z_CLX2 (by decide) z_wX2_11 (by decide) (by decide) (by decide) (by decide +kernel) (by decide +kernel) ?_
  refine V_iload_n (x := 6) (pc := 28) dX2_init_28 rfl ?_
  refine P_new (k := 113) (mk := 63) (bc2 := 77) (bs2 := 7281) (n2 := 113) (pc := 29) dX2_init_29 z_CLX9 z_wX2_9 z_inX9 z_itX9 (by decide +kernel) rfl rfl (by decide +kernel) (by decide) (hz.mono (m := 112) (Nat.le_of_ble_eq_true rfl)) (z_mk (by decide) (by decide +kernel)) ?_
  refine V_dup (a := vR 113) (pc := 32) dX2_init_32 ?_ (by decide)
  refine P_callIN (as := []) (st := [vR 113, vI 6, vR 34]) (k := 113) (bc2 := 65) (bs2 := 6075) (pc := 33) dX2_init_33 z_mX9_init z_iX9_init ⟨rfl, (Or.inr ⟨rfl, rfl⟩)⟩ (i_X9_113 (σ := σ) hst (hz.mono (m := 113) (Nat.le_of_ble_eq_true rfl))) rfl (by decide) ⟨(Nat.le_of_ble_eq_true rfl), (Nat.le_of_ble_eq_true rfl), (by decide +kernel), (by decide +kernel), (Nat.le_of_ble_eq_true rfl)⟩ ?_
  refine P_aast (j := 6) (m' := 3968) (P' := [(34, 3968), (33, 0), (1, 4064)]) (pc := 36) dX2_init_36 (by decide) (by decide) (by decide +kernel) rfl (by decide +kernel) (by decide) (by decide) (by decide +kernel) (by decide +kernel) z_h0 (z_clr (by decide +kernel) (by decide +kernel)) ?_
  refine V_iinc (x := 6) (y := 7) (lv' := [vR 33, vI 7]) (pc := 37) dX2_init_37 rfl (by decide +kernel) rfl ?_ (by decide)
  refine V_goto (tgt := 15) (pc := 40) dX2_init_40 ?_ (by decide)
  refine V_iload_n (x := 7) (pc := 15) dX2_init_15 rfl ?_
  refine V_aload_n (v := vR 33) (pc := 16) dX2_init_16 rfl ?_ (Or.inl rfl)
  refine V_getR (r := 34) (j := 0) (pc := 17) dX2_init_17 z_CLX2 (by decide) z_wX2_11 (by decide) (by decide) (by decide) (by decide +kernel) (by decide +kernel) ?_
  refine V_alen (x := 12) (c := 104) (t0 := 4) (ty := .object RX9) (pc := 20) dX2_init_20 (by decide) (by decide) (by decide +kernel) (by decide +kernel) ?_ (by decide) rfl (by decide)
  refine V_icmp_ge (tgt := 43) (pc := 21) dX2_init_21 (fun h => absurd h (by decide)) (fun _ => ?_) (by decide)
  refine V_aload_n (v := vR 33) (pc := 24) dX2_init_24 rfl ?_ (Or.inl rfl)
  refine V_getR (r := 34) (j := 0) (pc := 25) dX2_init_25 z_CLX2 (by decide) z_wX2_11 (by decide) (by decide) (by decide) (by decide +kernel) (by decide +kernel) ?_
  refine V_iload_n (x := 7) (pc := 28) dX2_init_28 rfl ?_
  refine P_new (k := 126) (mk := 63) (bc2 := 64) (bs2 := 6066) (n2 := 126) (pc := 29) dX2_init_29 z_CLX9 z_wX2_9 z_inX9 z_itX9 (by decide +kernel) rfl rfl (by decide +kernel) (by decide) (hz.mono (m := 125) (Nat.le_of_ble_eq_true rfl)) (z_mk (by decide) (by decide +kernel)) ?_
  refine V_dup (a := vR 126) (pc := 32) dX2_init_32 ?_ (by decide)
  refine P_callIN (as := []) (st := [vR 126, vI 7, vR 34]) (k := 126) (bc2 := 52) (bs2 := 4860) (pc := 33) dX2_init_33 z_mX9_init z_iX9_init ⟨rfl, (Or.inr ⟨rfl, rfl⟩)⟩ (i_X9_126 (σ := σ) hst (hz.mono (m := 126) (Nat.le_of_ble_eq_true rfl))) rfl (by decide) ⟨(Nat.le_of_ble_eq_true rfl), (Nat.le_of_ble_eq_true rfl), (by decide +kernel), (by decide +kernel), (Nat.le_of_ble_eq_true rfl)⟩ ?_
  refine P_aast (j := 7) (m' := 3840) (P' := [(34, 3840), (33, 0), (1, 4064)]) (pc := 36) dX2_init_36 (by decide) (by decide) (by decide +kernel) rfl (by decide +kernel) (by decide) (by decide) (by decide +kernel) (by decide +kernel) z_h0 (z_clr (by decide +kernel) (by decide +kernel)) ?_
  refine V_iinc (x := 7) (y := 8) (lv' := [vR 33, vI 8]) (pc := 37) dX2_init_37 rfl (by decide +kernel) rfl ?_ (by decide)
  refine V_goto (tgt := 15) (pc := 40) dX2_init_40 ?_ (by decide)
  refine V_iload_n (x := 8) (pc := 15) dX2_init_15 rfl ?_
  refine V_aload_n (v := vR 33) (pc := 16) dX2_init_16 rfl ?_ (Or.inl rfl)
  refine V_getR (r := 34) (j := 0) (pc := 17) dX2_init_17 z_CLX2 (by decide) z_wX2_11 (by decide) (by decide) (by decide) (by decide +kernel) (by decide +kernel) ?_
  refine V_alen (x := 12) (c := 104) (t0 := 4) (ty := .object RX9) (pc := 20) dX2_init_20 (by decide) (by decide) (by decide +kernel) (by decide +kernel) ?_ (by decide) rfl (by decide)
  refine V_icmp_ge (tgt := 43) (pc := 21) dX2_init_21 (fun h => absurd h (by decide)) (fun _ => ?_) (by decide)
  refine V_aload_n (v := vR 33) (pc := 24) dX2_init_24 rfl ?_ (Or.inl rfl)
  refine V_getR (r := 34) (j := 0) (pc := 25) dX2_init_25 z_CLX2 (by decide) z_wX2_11 (by decide) (by decide) (by decide) (by decide +kernel) (by decide +kernel) ?_
  refine V_iload_n (x := 8) (pc := 28) dX2_init_28 rfl ?_
  refine P_new (k := 139) (mk := 63) (bc2 := 51) (bs2 := 4851) (n2 := 139) (pc := 29) dX2_init_29 z_CLX9 z_wX2_9 z_inX9 z_itX9 (by decide +kernel) rfl rfl (by decide +kernel) (by decide) (hz.mono (m := 138) (Nat.le_of_ble_eq_true rfl)) (z_mk (by decide) (by decide +kernel)) ?_
  refine V_dup (a := vR 139) (pc := 32) dX2_init_32 ?_ (by decide)
  refine P_callIN (as := []) (st := [vR 139, vI 8, vR 34]) (k := 139) (bc2 := 39) (bs2 := 3645) (pc := 33) dX2_init_33 z_mX9_init z_iX9_init ⟨rfl, (Or.inr ⟨rfl, rfl⟩)⟩ (i_X9_139 (σ := σ) hst (hz.mono (m := 139) (Nat.le_of_ble_eq_true rfl))) rfl (by decide) ⟨(Nat.le_of_ble_eq_true rfl), (Nat.le_of_ble_eq_true rfl), (by decide +kernel), (by decide +kernel), (Nat.le_of_ble_eq_true rfl)⟩ ?_
  refine P_aast (j := 8) (m' := 3584) (P' := [(34, 3584), (33, 0), (1, 4064)]) (pc := 36) dX2_init_36 (by decide) (by decide) (by decide +kernel) rfl (by decide +kernel) (by decide) (by decide) (by decide +kernel) (by decide +kernel) z_h0 (z_clr (by decide +kernel) (by decide +kernel)) ?_
  refine V_iinc (x := 8) (y := 9) (lv' := [vR 33, vI 9]) (pc := 37) dX2_init_37 rfl (by decide +kernel) rfl ?_ (by decide)
  refine V_goto (tgt := 15) (pc := 40) dX2_init_40 ?_ (by decide)
  refine V_iload_n (x := 9) (pc := 15) dX2_init_15 rfl ?_
  refine V_aload_n (v := vR 33) (pc := 16) dX2_init_16 rfl ?_ (Or.inl rfl)
  refine V_getR (r := 34) (j := 0) (pc := 17) dX2_init_17 z_CLX2 (by decide) z_wX2_11 (by decide) (by decide) (by decide) (by decide +kernel) (by decide +kernel) ?_
  refine V_alen (x := 12) (c := 104) (t0 := 4) (ty := .object RX9) (pc := 20) dX2_init_20 (by decide) (by decide) (by decide +kernel) (by decide +kernel) ?_ (by decide) rfl (by decide)
  refine V_icmp_ge (tgt := 43) (pc := 21) dX2_init_21 (fun h => absurd h (by decide)) (fun _ => ?_) (by decide)
  refine V_aload_n (v := vR 33) (pc := 24) dX2_init_24 rfl ?_ (Or.inl rfl)
  refine V_getR (r := 34) (j := 0) (pc := 25) dX2_init_25 z_CLX2 (by decide) z_wX2_11 (by decide) (by decide) (by decide) (by decide +kernel) (by decide +kernel) ?_
  refine V_iload_n (x := 9) (pc := 28) dX2_init_28 rfl ?_
  refine P_new (k := 152) (mk := 63) (bc2 := 38) (bs2 := 3636) (n2 := 152) (pc := 29) dX2_init_29 z_CLX9 z_wX2_9 z_inX9 z_itX9 (by decide +kernel) rfl rfl (by decide +kernel) (by decide) (hz.mono (m := 151) (Nat.le_of_ble_eq_true rfl)) (z_mk (by decide) (by decide +kernel)) ?_
  refine V_dup (a := vR 152) (pc := 32) dX2_init_32 ?_ (by decide)
  refine P_callIN (as := []) (st := [vR 152, vI 9, vR 34]) (k := 152) (bc2 := 26) (bs2 := 2430) (pc := 33) dX2_init_33 z_mX9_init z_iX9_init ⟨rfl, (Or.inr ⟨rfl, rfl⟩)⟩ (i_X9_152 (σ := σ) hst (hz.mono (m := 152) (Nat.le_of_ble_eq_true rfl))) rfl (by decide) ⟨(Nat.le_of_ble_eq_true rfl), (Nat.le_of_ble_eq_true rfl), (by decide +kernel), (by decide +kernel), (Nat.le_of_ble_eq_true rfl)⟩ ?_
  refine P_aast (j := 9) (m' := 3072) (P' := [(34, 3072), (33, 0), (1, 4064)]) (pc := 36) dX2_init_36 (by decide) (by decide) (by decide +kernel) rfl (by decide +kernel) (by decide) (by decide) (by decide +kernel) (by decide +kernel) z_h0 (z_clr (by decide +kernel) (by decide +kernel)) ?_
  refine V_iinc (x := 9) (y := 10) (lv' := [vR 33, vI 10]) (pc := 37) dX2_init_37 rfl (by decide +kernel) rfl ?_ (by decide)
  refine V_goto (tgt := 15) (pc := 40) dX2_init_40 ?_ (by decide)
  refine V_iload_n (x := 10) (pc := 15) dX2_init_15 rfl ?_
  refine V_aload_n (v := vR 33) (pc := 16) dX2_init_16 rfl ?_ (Or.inl rfl)
  refine V_getR (r := 34) (j := 0) (pc := 17) dX2_init_17 z_CLX2 (by decide) z_wX2_11 (by decide) (by decide) (by decide) (by decide +kernel) (by decide +kernel) ?_
  refine V_alen (x := 12) (c := 104) (t0 := 4) (ty := .object RX9) (pc := 20) dX2_init_20 (by decide) (by decide) (by decide +kernel) (by decide +kernel) ?_ (by decide) rfl (by decide)
  refine V_icmp_ge (tgt := 43) (pc := 21) dX2_init_21 (fun h => absurd h (by decide)) (fun _ => ?_) (by decide)
  refine V_aload_n (v := vR 33) (pc := 24) dX2_init_24 rfl ?_ (Or.inl rfl)
  refine V_getR (r := 34) (j := 0) (pc := 25) dX2_init_25 z_CLX2 (by decide) z_wX2_11 (by decide) (by decide) (by decide) (by decide +kernel) (by decide +kernel) ?_
  refine V_iload_n (x := 10) (pc := 28) dX2_init_28 rfl ?_
  refine P_new (k := 165) (mk := 63) (bc2 := 25) (bs2 := 2421) (n2 := 165) (pc := 29) dX2_init_29 z_CLX9 z_wX2_9 z_inX9 z_itX9 (by decide +kernel) rfl rfl (by decide +kernel) (by decide) (hz.mono (m := 164) (Nat.le_of_ble_eq_true rfl)) (z_mk (by decide) (by decide +kernel)) ?_
  refine V_dup (a := vR 165) (pc := 32) dX2_init_32 ?_ (by decide)
  refine P_callIN (as := []) (st := [vR 165, vI 10, vR 34]) (k := 165) (bc2 := 13) (bs2 := 1215) (pc := 33) dX2_init_33 z_mX9_init z_iX9_init ⟨rfl, (Or.inr ⟨rfl, rfl⟩)⟩ (i_X9_165 (σ := σ) hst (hz.mono (m := 165) (Nat.le_of_ble_eq_true rfl))) rfl (by decide) ⟨(Nat.le_of_ble_eq_true rfl), (Nat.le_of_ble_eq_true rfl), (by decide +kernel), (by decide +kernel), (Nat.le_of_ble_eq_true rfl)⟩ ?_
  refine P_aast (j := 10) (m' := 2048) (P' := [(34, 2048), (33, 0), (1, 4064)]) (pc := 36) dX2_init_36 (by decide) (by decide) (by decide +kernel) rfl (by decide +kernel) (by decide) (by decide) (by decide +kernel) (by decide +kernel) z_h0 (z_clr (by decide +kernel) (by decide +kernel)) ?_
  refine V_iinc (x := 10) (y := 11) (lv' := [vR 33, vI 11]) (pc := 37) dX2_init_37 rfl (by decide +kernel) rfl ?_ (by decide)
  refine V_goto (tgt := 15) (pc := 40) dX2_init_40 ?_ (by decide)
  refine V_iload_n (x := 11) (pc := 15) dX2_init_15 rfl ?_
  refine V_aload_n (v := vR 33) (pc := 16) dX2_init_16 rfl ?_ (Or.inl rfl)
  refine V_getR (r := 34) (j := 0) (pc := 17) dX2_init_17 z_CLX2 (by decide) z_wX2_11 (by decide) (by decide) (by decide) (by decide +kernel) (by decide +kernel) ?_
  refine V_alen (x := 12) (c := 104) (t0 := 4) (ty := .object RX9) (pc := 20) dX2_init_20 (by decide) (by decide) (by decide +kernel) (by decide +kernel) ?_ (by decide) rfl (by decide)
  refine V_icmp_ge (tgt := 43) (pc := 21) dX2_init_21 (fun h => absurd h (by decide)) (fun _ => ?_) (by decide)
  refine V_aload_n (v := vR 33) (pc := 24) dX2_init_24 rfl ?_ (Or.inl rfl)
  refine V_getR (r := 34) (j := 0) (pc := 25) dX2_init_25 z_CLX2 (by decide) z_wX2_11 (by decide) (by decide) (by decide) (by decide +kernel) (by decide +kernel) ?_
  refine V_iload_n (x := 11) (pc := 28) dX2_init_28 rfl ?_
  refine P_new (k := 178) (mk := 63) (bc2 := 12) (bs2 := 1206) (n2 := 178) (pc := 29) dX2_init_29 z_CLX9 z_wX2_9 z_inX9 z_itX9 (by decide +kernel) rfl rfl (by decide +kernel) (by decide) (hz.mono (m := 177) (Nat.le_of_ble_eq_true rfl)) (z_mk (by decide) (by decide +kernel)) ?_
  refine V_dup (a := vR 178) (pc := 32) dX2_init_32 ?_ (by decide)
  refine P_callIN (as := []) (st := [vR 178, vI 11, vR 34]) (k := 178) (bc2 := 0) (bs2 := 0) (pc := 33) dX2_init_33 z_mX9_init z_iX9_init ⟨rfl, (Or.inr ⟨rfl, rfl⟩)⟩ (i_X9_178 (σ := σ) hst (hz.mono (m := 178) (Nat.le_of_ble_eq_true rfl))) rfl (by decide) ⟨(Nat.le_of_ble_eq_true rfl), (Nat.le_of_ble_eq_true rfl), (by decide +kernel), (by decide +kernel), (Nat.le_of_ble_eq_true rfl)⟩ ?_
  refine P_aast (j := 11) (m' := 0) (P' := [(34, 0), (33, 0), (1, 4064)]) (pc := 36) dX2_init_36 (by decide) (by decide) (by decide +kernel) rfl (by decide +kernel) (by decide) (by decide) (by decide +kernel) (by decide +kernel) z_h0 (z_clr (by decide +kernel) (by decide +kernel)) ?_
  refine P_pop (by decide +kernel) ?_
  refine V_iinc (x := 11) (y := 12) (lv' := [vR 33, vI 12]) (pc := 37) dX2_init_37 rfl (by decide +kernel) rfl ?_ (by decide)
  refine V_goto (tgt := 15) (pc := 40) dX2_init_40 ?_ (by decide)
  refine V_iload_n (x := 12) (pc := 15) dX2_init_15 rfl ?_
  refine V_aload_n (v := vR 33) (pc := 16) dX2_init_16 rfl ?_ (Or.inl rfl)
  refine V_getR (r := 34) (j := 0) (pc := 17) dX2_init_17 z_CLX2 (by decide) z_wX2_11 (by decide) (by decide) (by decide) (by decide +kernel) (by decide +kernel) ?_
  refine V_alen (x := 12) (c := 104) (t0 := 4) (ty := .object RX9) (pc := 20) dX2_init_20 (by decide) (by decide) (by decide +kernel) (by decide +kernel) ?_ (by decide) rfl (by decide)
  refine V_icmp_ge (tgt := 43) (pc := 21) dX2_init_21 (fun _ => ?_) (fun h => absurd h (by decide)) (by decide)
  refine P_pop (by decide +kernel) ?_
  exact P_ret (pc := 43) dX2_init_43 rfl
theorem i_X10_191 {l : Launch} {K : z_K} {σ : z_M} (hst : l.stackTraces = false) (hz : z_zs σ 191) : z_C l K mX10_init 2 35 28 2816 [vR 191, vR 6, vR 2] 191 (z_pd [(191, 65535), (1, 4032)]) σ (z_IQ 219 (z_pd [(1, 4032)]) σ) := by
  refine P_of (lv := [vR 191, vR 6, vR 2]) hst z_mX10_init rfl ?_ (Nat.le_of_ble_eq_true rfl) rfl
  refine V_aload_n (v := vR 191) (pc := 0) dX10_init_0 rfl ?_ (Or.inl rfl)
  refine V_obj (st := []) (pc := 1) dX10_init_1 z_wX10_3 z_obj1 z_obj2 (by decide) (Nat.le_of_ble_eq_true rfl) (Nat.le_of_ble_eq_true rfl) ?_
  refine V_aload_n (v := vR 191) (pc := 4) dX10_init_4 rfl ?_ (Or.inl rfl)
  refine P_new (k := 192) (mk := 1) (bc2 := 27) (bs2 := 2815) (n2 := 192) (pc := 5) dX10_init_5 z_CLX7 z_wX10_9 z_inX7 z_itX7 (by decide +kernel) rfl rfl (by decide +kernel) (by decide) (hz.mono (m := 191) (Nat.le_of_ble_eq_true rfl)) (z_mk (by decide) (by decide +kernel)) ?_
  refine V_dup (a := vR 192) (pc := 8) dX10_init_8 ?_ (by decide)
  refine V_sipush (x := 200) (pc := 9) dX10_init_9 (by decide) ?_
  refine P_callI (as := [vI 200]) (st := [vR 192, vR 191]) (k := 192) (bc2 := 26) (bs2 := 2615) (pc := 12) dX10_init_12 z_mX7_init z_iX7_init z_wX10_11 (i_X7 (σ := σ) (P := [(191, 65535), (1, 4032)]) (n := 192) (n2 := 193) (sl := 200) hst (hz.mono (m := 192) (Nat.le_of_ble_eq_true rfl)) (by decide) (by decide) (by decide +kernel) rfl (by decide +kernel) (by decide +kernel) (by decide) rfl (by decide +kernel) (by decide +kernel)) rfl (by decide) ⟨(Nat.le_of_ble_eq_true rfl), (Nat.le_of_ble_eq_true rfl), (by decide +kernel), (by decide +kernel), (Nat.le_of_ble_eq_true rfl)⟩ ?_
  refine P_putR (j := 2) (m' := 65531) (P' := [(191, 65531), (1, 4032)]) (pc := 15) dX10_init_15 z_CLX10 (by decide) z_wX10_14 rfl rfl rfl (by decide) (by decide) (by decide) (by decide +kernel) (by decide +kernel) z_h0 (z_clr (by decide +kernel) (by decide +kernel)) ?_
  refine V_aload_n (v := vR 191) (pc := 18) dX10_init_18 rfl ?_ (Or.inl rfl)
  refine P_new (k := 194) (mk := 1) (bc2 := 25) (bs2 := 2614) (n2 := 194) (pc := 19) dX10_init_19 z_CLX7 z_wX10_9 z_inX7 z_itX7 (by decide +kernel) rfl rfl (by decide +kernel) (by decide) (hz.mono (m := 193) (Nat.le_of_ble_eq_true rfl)) (z_mk (by decide) (by decide +kernel)) ?_
  refine V_dup (a := vR 194) (pc := 22) dX10_init_22 ?_ (by decide)
  refine V_sipush (x := 200) (pc := 23) dX10_init_23 (by decide) ?_
  refine P_callI (as := [vI 200]) (st := [vR 194, vR 191]) (k := 194) (bc2 := 24) (bs2 := 2414) (pc := 26) dX10_init_26 z_mX7_init z_iX7_init z_wX10_11 (i_X7 (σ := σ) (P := [(191, 65531), (1, 4032)]) (n := 194) (n2 := 195) (sl := 200) hst (hz.mono (m := 194) (Nat.le_of_ble_eq_true rfl)) (by decide) (by decide) (by decide +kernel) rfl (by decide +kernel) (by decide +kernel) (by decide) rfl (by decide +kernel) (by decide +kernel)) rfl (by decide) ⟨(Nat.le_of_ble_eq_true rfl), (Nat.le_of_ble_eq_true rfl), (by decide +kernel), (by decide +kernel), (Nat.le_of_ble_eq_true rfl)⟩ ?_
  refine P_putR (j := 3) (m' := 65523) (P' := [(191, 65523), (1, 4032)]) (pc := 29) dX10_init_29 z_CLX10 (by decide) z_wX10_20 rfl rfl rfl (by decide) (by decide) (by decide) (by decide +kernel) (by decide +kernel) z_h0 (z_clr (by decide +kernel) (by decide +kernel)) ?_
  refine V_aload_n (v := vR 191) (pc := 32) dX10_init_32 rfl ?_ (Or.inl rfl)
  refine P_new (k := 196) (mk := 1) (bc2 := 23) (bs2 := 2413) (n2 := 196) (pc := 33) dX10_init_33 z_CLX7 z_wX10_9 z_inX7 z_itX7 (by decide +kernel) rfl rfl (by decide +kernel) (by decide) (hz.mono (m := 195) (Nat.le_of_ble_eq_true rfl)) (z_mk (by decide) (by decide +kernel)) ?_
  refine V_dup (a := vR 196) (pc := 36) dX10_init_36 ?_ (by decide)
  refine V_sipush (x := 200) (pc := 37) dX10_init_37 (by decide) ?_
  refine P_callI (as := [vI 200]) (st := [vR 196, vR 191]) (k := 196) (bc2 := 22) (bs2 := 2213) (pc := 40) dX10_init_40 z_mX7_init z_iX7_init z_wX10_11 (i_X7 (σ := σ) (P := [(191, 65523), (1, 4032)]) (n := 196) (n2 := 197) (sl := 200) hst (hz.mono (m := 196) (Nat.le_of_ble_eq_true rfl)) (by decide) (by decide) (by decide +kernel) rfl (by decide +kernel) (by decide +kernel) (by decide) rfl (by decide +kernel) (by decide +kernel)) rfl (by decide) ⟨(Nat.le_of_ble_eq_true rfl), (Nat.le_of_ble_eq_true rfl), (by decide +kernel), (by decide +kernel), (Nat.le_of_ble_eq_true rfl)⟩ ?_
  refine P_putR (j := 4) (m' := 65507) (P' := [(191, 65507), (1, 4032)]) (pc := 43) dX10_init_43 z_CLX10 (by decide) z_wX10_23 rfl rfl rfl (by decide) (by decide) (by decide) (by decide +kernel) (by decide +kernel) z_h0 (z_clr (by decide +kernel) (by decide +kernel)) ?_
  refine V_aload_n (v := vR 191) (pc := 46) dX10_init_46 rfl ?_ (Or.inl rfl)
  refine P_new (k := 198) (mk := 1) (bc2 := 21) (bs2 := 2212) (n2 := 198) (pc := 47) dX10_init_47 z_CLX7 z_wX10_9 z_inX7 z_itX7 (by decide +kernel) rfl rfl (by decide +kernel) (by decide) (hz.mono (m := 197) (Nat.le_of_ble_eq_true rfl)) (z_mk (by decide) (by decide +kernel)) ?_
  refine V_dup (a := vR 198) (pc := 50) dX10_init_50 ?_ (by decide)
  refine V_sipush (x := 200) (pc := 51) dX10_init_51 (by decide) ?_
  refine P_callI (as := [vI 200]) (st := [vR 198, vR 191]) (k := 198) (bc2 := 20) (bs2 := 2012) (pc := 54) dX10_init_54 z_mX7_init z_iX7_init z_wX10_11 (i_X7 (σ := σ) (P := [(191, 65507), (1, 4032)]) (n := 198) (n2 := 199) (sl := 200) hst (hz.mono (m := 198) (Nat.le_of_ble_eq_true rfl)) (by decide) (by decide) (by decide +kernel) rfl (by decide +kernel) (by decide +kernel) (by decide) rfl (by decide +kernel) (by decide +kernel)) rfl (by decide) ⟨(Nat.le_of_ble_eq_true rfl), (Nat.le_of_ble_eq_true rfl), (by decide +kernel), (by decide +kernel), (Nat.le_of_ble_eq_true rfl)⟩ ?_
  refine P_putR (j := 5) (m' := 65475) (P' := [(191, 65475), (1, 4032)]) (pc := 57) dX10_init_57 z_CLX10 (by decide) z_wX10_26 rfl rfl rfl (by decide) (by decide) (by decide) (by decide +kernel) (by decide +kernel) z_h0 (z_clr (by decide +kernel) (by decide +kernel)) ?_
  refine V_aload_n (v := vR 191) (pc := 60) dX10_init_60 rfl ?_ (Or.inl rfl)
  refine P_new (k := 200) (mk := 1) (bc2 := 19) (bs2 := 2011) (n2 := 200) (pc := 61) dX10_init_61 z_CLX7 z_wX10_9 z_inX7 z_itX7 (by decide +kernel) rfl rfl (by decide +kernel) (by decide) (hz.mono (m := 199) (Nat.le_of_ble_eq_true rfl)) (z_mk (by decide) (by decide +kernel)) ?_
  refine V_dup (a := vR 200) (pc := 64) dX10_init_64 ?_ (by decide)
  refine V_sipush (x := 200) (pc := 65) dX10_init_65 (by decide) ?_
  refine P_callI (as := [vI 200]) (st := [vR 200, vR 191]) (k := 200) (bc2 := 18) (bs2 := 1811) (pc := 68) dX10_init_68 z_mX7_init z_iX7_init z_wX10_11 (i_X7 (σ := σ) (P := [(191, 65475), (1, 4032)]) (n := 200) (n2 := 201) (sl := 200) hst (hz.mono (m := 200) (Nat.le_of_ble_eq_true rfl)) (by decide) (by decide) (by decide +kernel) rfl (by decide +kernel) (by decide +kernel) (by decide) rfl (by decide +kernel) (by decide +kernel)) rfl (by decide) ⟨(Nat.le_of_ble_eq_true rfl), (Nat.le_of_ble_eq_true rfl), (by decide +kernel), (by decide +kernel), (Nat.le_of_ble_eq_true rfl)⟩ ?_
  refine P_putR (j := 6) (m' := 65411) (P' := [(191, 65411), (1, 4032)]) (pc := 71) dX10_init_71 z_CLX10 (by decide) z_wX10_29 rfl rfl rfl (by decide) (by decide) (by decide) (by decide +kernel) (by decide +kernel) z_h0 (z_clr (by decide +kernel) (by decide +kernel)) ?_
  refine V_aload_n (v := vR 191) (pc := 74) dX10_init_74 rfl ?_ (Or.inl rfl)
  refine P_new (k := 202) (mk := 1) (bc2 := 17) (bs2 := 1810) (n2 := 202) (pc := 75) dX10_init_75 z_CLX7 z_wX10_9 z_inX7 z_itX7 (by decide +kernel) rfl rfl (by decide +kernel) (by decide) (hz.mono (m := 201) (Nat.le_of_ble_eq_true rfl)) (z_mk (by decide) (by decide +kernel)) ?_
  refine V_dup (a := vR 202) (pc := 78) dX10_init_78 ?_ (by decide)
  refine V_sipush (x := 200) (pc := 79) dX10_init_79 (by decide) ?_
  refine P_callI (as := [vI 200]) (st := [vR 202, vR 191]) (k := 202) (bc2 := 16) (bs2 := 1610) (pc := 82) dX10_init_82 z_mX7_init z_iX7_init z_wX10_11 (i_X7 (σ := σ) (P := [(191, 65411), (1, 4032)]) (n := 202) (n2 := 203) (sl := 200) hst (hz.mono (m := 202) (Nat.le_of_ble_eq_true rfl)) (by decide) (by decide) (by decide +kernel) rfl (by decide +kernel) (by decide +kernel) (by decide) rfl (by decide +kernel) (by decide +kernel)) rfl (by decide) ⟨(Nat.le_of_ble_eq_true rfl), (Nat.le_of_ble_eq_true rfl), (by decide +kernel), (by decide +kernel), (Nat.le_of_ble_eq_true rfl)⟩ ?_
  refine P_putR (j := 7) (m' := 65283) (P' := [(191, 65283), (1, 4032)]) (pc := 85) dX10_init_85 z_CLX10 (by decide) z_wX10_32 rfl rfl rfl (by decide) (by decide) (by decide) (by decide +kernel) (by decide +kernel) z_h0 (z_clr (by decide +kernel) (by decide +kernel)) ?_
  refine V_aload_n (v := vR 191) (pc := 88) dX10_init_88 rfl ?_ (Or.inl rfl)
  refine P_new (k := 204) (mk := 1) (bc2 := 15) (bs2 := 1609) (n2 := 204) (pc := 89) dX10_init_89 z_CLX7 z_wX10_9 z_inX7 z_itX7 (by decide +kernel) rfl rfl (by decide +kernel) (by decide) (hz.mono (m := 203) (Nat.le_of_ble_eq_true rfl)) (z_mk (by decide) (by decide +kernel)) ?_
  refine V_dup (a := vR 204) (pc := 92) dX10_init_92 ?_ (by decide)
  refine V_sipush (x := 200) (pc := 93) dX10_init_93 (by decide) ?_
  refine P_callI (as := [vI 200]) (st := [vR 204, vR 191]) (k := 204) (bc2 := 14) (bs2 := 1409) (pc := 96) dX10_init_96 z_mX7_init z_iX7_init z_wX10_11 (i_X7 (σ := σ) (P := [(191, 65283), (1, 4032)]) (n := 204) (n2 := 205) (sl := 200) hst (hz.mono (m := 204) (Nat.le_of_ble_eq_true rfl)) (by decide) (by decide) (by decide +kernel) rfl (by decide +kernel) (by decide +kernel) (by decide) rfl (by decide +kernel) (by decide +kernel)) rfl (by decide) ⟨(Nat.le_of_ble_eq_true rfl), (Nat.le_of_ble_eq_true rfl), (by decide +kernel), (by decide +kernel), (Nat.le_of_ble_eq_true rfl)⟩ ?_
  refine P_putR (j := 8) (m' := 65027) (P' := [(191, 65027), (1, 4032)]) (pc := 99) dX10_init_99 z_CLX10 (by decide) z_wX10_35 rfl rfl rfl (by decide) (by decide) (by decide) (by decide +kernel) (by decide +kernel) z_h0 (z_clr (by decide +kernel) (by decide +kernel)) ?_
  refine V_aload_n (v := vR 191) (pc := 102) dX10_init_102 rfl ?_ (Or.inl rfl)
  refine P_new (k := 206) (mk := 1) (bc2 := 13) (bs2 := 1408) (n2 := 206) (pc := 103) dX10_init_103 z_CLX7 z_wX10_9 z_inX7 z_itX7 (by decide +kernel) rfl rfl (by decide +kernel) (by decide) (hz.mono (m := 205) (Nat.le_of_ble_eq_true rfl)) (z_mk (by decide) (by decide +kernel)) ?_
  refine V_dup (a := vR 206) (pc := 106) dX10_init_106 ?_ (by decide)
  refine V_sipush (x := 200) (pc := 107) dX10_init_107 (by decide) ?_
  refine P_callI (as := [vI 200]) (st := [vR 206, vR 191]) (k := 206) (bc2 := 12) (bs2 := 1208) (pc := 110) dX10_init_110 z_mX7_init z_iX7_init z_wX10_11 (i_X7 (σ := σ) (P := [(191, 65027), (1, 4032)]) (n := 206) (n2 := 207) (sl := 200) hst (hz.mono (m := 206) (Nat.le_of_ble_eq_true rfl)) (by decide) (by decide) (by decide +kernel) rfl (by decide +kernel) (by decide +kernel) (by decide) rfl (by decide +kernel) (by decide +kernel)) rfl (by decide) ⟨(Nat.le_of_ble_eq_true rfl), (Nat.le_of_ble_eq_true rfl), (by decide +kernel), (by decide +kernel), (Nat.le_of_ble_eq_true rfl)⟩ ?_
  refine P_putR (j := 9) (m' := 64515) (P' := [(191, 64515), (1, 4032)]) (pc := 113) dX10_init_113 z_CLX10 (by decide) z_wX10_38 rfl rfl rfl (by decide) (by decide) (by decide) (by decide +kernel) (by decide +kernel) z_h0 (z_clr (by decide +kernel) (by decide +kernel)) ?_
  refine V_aload_n (v := vR 191) (pc := 116) dX10_init_116 rfl ?_ (Or.inl rfl)
  refine P_new (k := 208) (mk := 1) (bc2 := 11) (bs2 := 1207) (n2 := 208) (pc := 117) dX10_init_117 z_CLX7 z_wX10_9 z_inX7 z_itX7 (by decide +kernel) rfl rfl (by decide +kernel) (by decide) (hz.mono (m := 207) (Nat.le_of_ble_eq_true rfl)) (z_mk (by decide) (by decide +kernel)) ?_
  refine V_dup (a := vR 208) (pc := 120) dX10_init_120 ?_ (by decide)
  refine V_sipush (x := 200) (pc := 121) dX10_init_121 (by decide) ?_
  refine P_callI (as := [vI 200]) (st := [vR 208, vR 191]) (k := 208) (bc2 := 10) (bs2 := 1007) (pc := 124) dX10_init_124 z_mX7_init z_iX7_init z_wX10_11 (i_X7 (σ := σ) (P := [(191, 64515), (1, 4032)]) (n := 208) (n2 := 209) (sl := 200) hst (hz.mono (m := 208) (Nat.le_of_ble_eq_true rfl)) (by decide) (by decide) (by decide +kernel) rfl (by decide +kernel) (by decide +kernel) (by decide) rfl (by decide +kernel) (by decide +kernel)) rfl (by decide) ⟨(Nat.le_of_ble_eq_true rfl), (Nat.le_of_ble_eq_true rfl), (by decide +kernel), (by decide +kernel), (Nat.le_of_ble_eq_true rfl)⟩ ?_
  refine P_putR (j := 10) (m' := 63491) (P' := [(191, 63491), (1, 4032)]) (pc := 127) dX10_init_127 z_CLX10 (by decide) z_wX10_41 rfl rfl rfl (by decide) (by decide) (by decide) (by decide +kernel) (by decide +kernel) z_h0 (z_clr (by decide +kernel) (by decide +kernel)) ?_
  refine V_aload_n (v := vR 191) (pc := 130) dX10_init_130 rfl ?_ (Or.inl rfl)
  refine P_new (k := 210) (mk := 1) (bc2 := 9) (bs2 := 1006) (n2 := 210) (pc := 131) dX10_init_131 z_CLX7 z_wX10_9 z_inX7 z_itX7 (by decide +kernel) rfl rfl (by decide +kernel) (by decide) (hz.mono (m := 209) (Nat.le_of_ble_eq_true rfl)) (z_mk (by decide) (by decide +kernel)) ?_
  refine V_dup (a := vR 210) (pc := 134) dX10_init_134 ?_ (by decide)
  refine V_sipush (x := 201) (pc := 135) dX10_init_135 (by decide) ?_
  refine P_callI (as := [vI 201]) (st := [vR 210, vR 191]) (k := 210) (bc2 := 8) (bs2 := 805) (pc := 138) dX10_init_138 z_mX7_init z_iX7_init z_wX10_11 (i_X7 (σ := σ) (P := [(191, 63491), (1, 4032)]) (n := 210) (n2 := 211) (sl := 201) hst (hz.mono (m := 210) (Nat.le_of_ble_eq_true rfl)) (by decide) (by decide) (by decide +kernel) rfl (by decide +kernel) (by decide +kernel) (by decide) rfl (by decide +kernel) (by decide +kernel)) rfl (by decide) ⟨(Nat.le_of_ble_eq_true rfl), (Nat.le_of_ble_eq_true rfl), (by decide +kernel), (by decide +kernel), (Nat.le_of_ble_eq_true rfl)⟩ ?_
  refine P_putR (j := 11) (m' := 61443) (P' := [(191, 61443), (1, 4032)]) (pc := 141) dX10_init_141 z_CLX10 (by decide) z_wX10_44 rfl rfl rfl (by decide) (by decide) (by decide) (by decide +kernel) (by decide +kernel) z_h0 (z_clr (by decide +kernel) (by decide +kernel)) ?_
  refine V_aload_n (v := vR 191) (pc := 144) dX10_init_144 rfl ?_ (Or.inl rfl)
  refine P_new (k := 212) (mk := 1) (bc2 := 7) (bs2 := 804) (n2 := 212) (pc := 145) dX10_init_145 z_CLX7 z_wX10_9 z_inX7 z_itX7 (by decide +kernel) rfl rfl (by decide +kernel) (by decide) (hz.mono (m := 211) (Nat.le_of_ble_eq_true rfl)) (z_mk (by decide) (by decide +kernel)) ?_
  refine V_dup (a := vR 212) (pc := 148) dX10_init_148 ?_ (by decide)
  refine V_sipush (x := 201) (pc := 149) dX10_init_149 (by decide) ?_
  refine P_callI (as := [vI 201]) (st := [vR 212, vR 191]) (k := 212) (bc2 := 6) (bs2 := 603) (pc := 152) dX10_init_152 z_mX7_init z_iX7_init z_wX10_11 (i_X7 (σ := σ) (P := [(191, 61443), (1, 4032)]) (n := 212) (n2 := 213) (sl := 201) hst (hz.mono (m := 212) (Nat.le_of_ble_eq_true rfl)) (by decide) (by decide) (by decide +kernel) rfl (by decide +kernel) (by decide +kernel) (by decide) rfl (by decide +kernel) (by decide +kernel)) rfl (by decide) ⟨(Nat.le_of_ble_eq_true rfl), (Nat.le_of_ble_eq_true rfl), (by decide +kernel), (by decide +kernel), (Nat.le_of_ble_eq_true rfl)⟩ ?_
  refine P_putR (j := 12) (m' := 57347) (P' := [(191, 57347), (1, 4032)]) (pc := 155) dX10_init_155 z_CLX10 (by decide) z_wX10_47 rfl rfl rfl (by decide) (by decide) (by decide) (by decide +kernel) (by decide +kernel) z_h0 (z_clr (by decide +kernel) (by decide +kernel)) ?_
  refine V_aload_n (v := vR 191) (pc := 158) dX10_init_158 rfl ?_ (Or.inl rfl)
  refine P_new (k := 214) (mk := 1) (bc2 := 5) (bs2 := 602) (n2 := 214) (pc := 159) dX10_init_159 z_CLX7 z_wX10_9 z_inX7 z_itX7 (by decide +kernel) rfl rfl (by decide +kernel) (by decide) (hz.mono (m := 213) (Nat.le_of_ble_eq_true rfl)) (z_mk (by decide) (by decide +kernel)) ?_
  refine V_dup (a := vR 214) (pc := 162) dX10_init_162 ?_ (by decide)
  refine V_sipush (x := 200) (pc := 163) dX10_init_163 (by decide) ?_
  refine P_callI (as := [vI 200]) (st := [vR 214, vR 191]) (k := 214) (bc2 := 4) (bs2 := 402) (pc := 166) dX10_init_166 z_mX7_init z_iX7_init z_wX10_11 (i_X7 (σ := σ) (P := [(191, 57347), (1, 4032)]) (n := 214) (n2 := 215) (sl := 200) hst (hz.mono (m := 214) (Nat.le_of_ble_eq_true rfl)) (by decide) (by decide) (by decide +kernel) rfl (by decide +kernel) (by decide +kernel) (by decide) rfl (by decide +kernel) (by decide +kernel)) rfl (by decide) ⟨(Nat.le_of_ble_eq_true rfl), (Nat.le_of_ble_eq_true rfl), (by decide +kernel), (by decide +kernel), (Nat.le_of_ble_eq_true rfl)⟩ ?_
  refine P_putR (j := 13) (m' := 49155) (P' := [(191, 49155), (1, 4032)]) (pc := 169) dX10_init_169 z_CLX10 (by decide) z_wX10_50 rfl rfl rfl (by decide) (by decide) (by decide) (by decide +kernel) (by decide +kernel) z_h0 (z_clr (by decide +kernel) (by decide +kernel)) ?_
  refine V_aload_n (v := vR 191) (pc := 172) dX10_init_172 rfl ?_ (Or.inl rfl)
  refine P_new (k := 216) (mk := 1) (bc2 := 3) (bs2 := 401) (n2 := 216) (pc := 173) dX10_init_173 z_CLX7 z_wX10_9 z_inX7 z_itX7 (by decide +kernel) rfl rfl (by decide +kernel) (by decide) (hz.mono (m := 215) (Nat.le_of_ble_eq_true rfl)) (z_mk (by decide) (by decide +kernel)) ?_
  refine V_dup (a := vR 216) (pc := 176) dX10_init_176 ?_ (by decide)
  refine V_sipush (x := 200) (pc := 177) dX10_init_177 (by decide) ?_
  refine P_callI (as := [vI 200]) (st := [vR 216, vR 191]) (k := 216) (bc2 := 2) (bs2 := 201) (pc := 180) dX10_init_180 z_mX7_init z_iX7_init z_wX10_11 (i_X7 (σ := σ) (P := [(191, 49155), (1, 4032)]) (n := 216) (n2 := 217) (sl := 200) hst (hz.mono (m := 216) (Nat.le_of_ble_eq_true rfl)) (by decide) (by decide) (by decide +kernel) rfl (by decide +kernel) (by decide +kernel) (by decide) rfl (by decide +kernel) (by decide +kernel)) rfl (by decide) ⟨(Nat.le_of_ble_eq_true rfl), (Nat.le_of_ble_eq_true rfl), (by decide +kernel), (by decide +kernel), (Nat.le_of_ble_eq_true rfl)⟩ ?_
  refine P_putR (j := 14) (m' := 32771) (P' := [(191, 32771), (1, 4032)]) (pc := 183) dX10_init_183 z_CLX10 (by decide) z_wX10_53 rfl rfl rfl (by decide) (by decide) (by decide) (by decide +kernel) (by decide +kernel) z_h0 (z_clr (by decide +kernel) (by decide +kernel)) ?_
  refine V_aload_n (v := vR 191) (pc := 186) dX10_init_186 rfl ?_ (Or.inl rfl)
  refine P_new (k := 218) (mk := 1) (bc2 := 1) (bs2 := 200) (n2 := 218) (pc := 187) dX10_init_187 z_CLX7 z_wX10_9 z_inX7 z_itX7 (by decide +kernel) rfl rfl (by decide +kernel) (by decide) (hz.mono (m := 217) (Nat.le_of_ble_eq_true rfl)) (z_mk (by decide) (by decide +kernel)) ?_
  refine V_dup (a := vR 218) (pc := 190) dX10_init_190 ?_ (by decide)
  refine V_sipush (x := 200) (pc := 191) dX10_init_191 (by decide) ?_
  refine P_callI (as := [vI 200]) (st := [vR 218, vR 191]) (k := 218) (bc2 := 0) (bs2 := 0) (pc := 194) dX10_init_194 z_mX7_init z_iX7_init z_wX10_11 (i_X7 (σ := σ) (P := [(191, 32771), (1, 4032)]) (n := 218) (n2 := 219) (sl := 200) hst (hz.mono (m := 218) (Nat.le_of_ble_eq_true rfl)) (by decide) (by decide) (by decide +kernel) rfl (by decide +kernel) (by decide +kernel) (by decide) rfl (by decide +kernel) (by decide +kernel)) rfl (by decide) ⟨(Nat.le_of_ble_eq_true rfl), (Nat.le_of_ble_eq_true rfl), (by decide +kernel), (by decide +kernel), (Nat.le_of_ble_eq_true rfl)⟩ ?_
  refine P_putR (j := 15) (m' := 3) (P' := [(191, 3), (1, 4032)]) (pc := 197) dX10_init_197 z_CLX10 (by decide) z_wX10_56 rfl rfl rfl (by decide) (by decide) (by decide) (by decide +kernel) (by decide +kernel) z_h0 (z_clr (by decide +kernel) (by decide +kernel)) ?_
  refine V_aload_n (v := vR 191) (pc := 200) dX10_init_200 rfl ?_ (Or.inl rfl)
  refine V_aload_n (v := vR 6) (pc := 201) dX10_init_201 rfl ?_ (Or.inl rfl)
  refine P_putR (j := 0) (m' := 2) (P' := [(191, 2), (1, 4032)]) (pc := 202) dX10_init_202 z_CLX10 (by decide) z_wX10_59 rfl rfl rfl (by decide) (by decide) (by decide) (by decide +kernel) (by decide +kernel) z_h0 (z_clr (by decide +kernel) (by decide +kernel)) ?_
  refine V_aload_n (v := vR 191) (pc := 205) dX10_init_205 rfl ?_ (Or.inl rfl)
  refine V_aload_n (v := vR 2) (pc := 206) dX10_init_206 rfl ?_ (Or.inl rfl)
  refine P_putR (j := 1) (m' := 0) (P' := [(191, 0), (1, 4032)]) (pc := 207) dX10_init_207 z_CLX10 (by decide) z_wX10_63 rfl rfl rfl (by decide) (by decide) (by decide) (by decide +kernel) (by decide +kernel) z_h0 (z_clr (by decide +kernel) (by decide +kernel)) ?_
  refine P_pop (by decide +kernel) ?_
  exact P_ret (pc := 210) dX10_init_210 rfl
theorem i_X0_223 {l : Launch} {K : z_K} {σ : z_M} (hst : l.stackTraces = false) (hz : z_zs σ 223) : z_C l K mX0_init 2 35 16 1608 [vR 223, vR 191] 223 (z_pd [(223, 511), (220, 4), (1, 3968)]) σ (z_IQ 239 (z_pd [(220, 4), (1, 3968)]) σ) := by
  refine P_of (lv := [vR 223, vR 191]) hst z_mX0_init rfl ?_ (Nat.le_of_ble_eq_true rfl) rfl
  refine V_aload_n (v := vR 223) (pc := 0) dX0_init_0 rfl ?_ (Or.inl rfl)
  refine V_obj (st := []) (pc := 1) dX0_init_1 z_wX0_3 z_obj1 z_obj2 (by decide) (Nat.le_of_ble_eq_true rfl) (Nat.le_of_ble_eq_true rfl) ?_
  refine V_aload_n (v := vR 223) (pc := 4) dX0_init_4 rfl ?_ (Or.inl rfl)
  refine P_new (k := 224) (mk := 1) (bc2 := 15) (bs2 := 1607) (n2 := 224) (pc := 5) dX0_init_5 z_CLX7 z_wX0_9 z_inX7 z_itX7 (by decide +kernel) rfl rfl (by decide +kernel) (by decide) (hz.mono (m := 223) (Nat.le_of_ble_eq_true rfl)) (z_mk (by decide) (by decide +kernel)) ?_
  refine V_dup (a := vR 224) (pc := 8) dX0_init_8 ?_ (by decide)
  refine V_sipush (x := 200) (pc := 9) dX0_init_9 (by decide) ?_
  refine P_callI (as := [vI 200]) (st := [vR 224, vR 223]) (k := 224) (bc2 := 14) (bs2 := 1407) (pc := 12) dX0_init_12 z_mX7_init z_iX7_init z_wX0_11 (i_X7 (σ := σ) (P := [(223, 511), (220, 4), (1, 3968)]) (n := 224) (n2 := 225) (sl := 200) hst (hz.mono (m := 224) (Nat.le_of_ble_eq_true rfl)) (by decide) (by decide) (by decide +kernel) rfl (by decide +kernel) (by decide +kernel) (by decide) rfl (by decide +kernel) (by decide +kernel)) rfl (by decide) ⟨(Nat.le_of_ble_eq_true rfl), (Nat.le_of_ble_eq_true rfl), (by decide +kernel), (by decide +kernel), (Nat.le_of_ble_eq_true rfl)⟩ ?_
  refine P_putR (j := 1) (m' := 509) (P' := [(223, 509), (220, 4), (1, 3968)]) (pc := 15) dX0_init_15 z_CLX0 (by decide) z_wX0_14 rfl rfl rfl (by decide) (by decide) (by decide) (by decide +kernel) (by decide +kernel) z_h0 (z_clr (by decide +kernel) (by decide +kernel)) ?_
  refine V_aload_n (v := vR 223) (pc := 18) dX0_init_18 rfl ?_ (Or.inl rfl)
  refine P_new (k := 226) (mk := 1) (bc2 := 13) (bs2 := 1406) (n2 := 226) (pc := 19) dX0_init_19 z_CLX7 z_wX0_9 z_inX7 z_itX7 (by decide +kernel) rfl rfl (by decide +kernel) (by decide) (hz.mono (m := 225) (Nat.le_of_ble_eq_true rfl)) (z_mk (by decide) (by decide +kernel)) ?_
  refine V_dup (a := vR 226) (pc := 22) dX0_init_22 ?_ (by decide)
  refine V_sipush (x := 200) (pc := 23) dX0_init_23 (by decide) ?_
  refine P_callI (as := [vI 200]) (st := [vR 226, vR 223]) (k := 226) (bc2 := 12) (bs2 := 1206) (pc := 26) dX0_init_26 z_mX7_init z_iX7_init z_wX0_11 (i_X7 (σ := σ) (P := [(223, 509), (220, 4), (1, 3968)]) (n := 226) (n2 := 227) (sl := 200) hst (hz.mono (m := 226) (Nat.le_of_ble_eq_true rfl)) (by decide) (by decide) (by decide +kernel) rfl (by decide +kernel) (by decide +kernel) (by decide) rfl (by decide +kernel) (by decide +kernel)) rfl (by decide) ⟨(Nat.le_of_ble_eq_true rfl), (Nat.le_of_ble_eq_true rfl), (by decide +kernel), (by decide +kernel), (Nat.le_of_ble_eq_true rfl)⟩ ?_
  refine P_putR (j := 2) (m' := 505) (P' := [(223, 505), (220, 4), (1, 3968)]) (pc := 29) dX0_init_29 z_CLX0 (by decide) z_wX0_20 rfl rfl rfl (by decide) (by decide) (by decide) (by decide +kernel) (by decide +kernel) z_h0 (z_clr (by decide +kernel) (by decide +kernel)) ?_
  refine V_aload_n (v := vR 223) (pc := 32) dX0_init_32 rfl ?_ (Or.inl rfl)
  refine P_new (k := 228) (mk := 1) (bc2 := 11) (bs2 := 1205) (n2 := 228) (pc := 33) dX0_init_33 z_CLX7 z_wX0_9 z_inX7 z_itX7 (by decide +kernel) rfl rfl (by decide +kernel) (by decide) (hz.mono (m := 227) (Nat.le_of_ble_eq_true rfl)) (z_mk (by decide) (by decide +kernel)) ?_
  refine V_dup (a := vR 228) (pc := 36) dX0_init_36 ?_ (by decide)
  refine V_sipush (x := 200) (pc := 37) dX0_init_37 (by decide) ?_
  refine P_callI (as := [vI 200]) (st := [vR 228, vR 223]) (k := 228) (bc2 := 10) (bs2 := 1005) (pc := 40) dX0_init_40 z_mX7_init z_iX7_init z_wX0_11 (i_X7 (σ := σ) (P := [(223, 505), (220, 4), (1, 3968)]) (n := 228) (n2 := 229) (sl := 200) hst (hz.mono (m := 228) (Nat.le_of_ble_eq_true rfl)) (by decide) (by decide) (by decide +kernel) rfl (by decide +kernel) (by decide +kernel) (by decide) rfl (by decide +kernel) (by decide +kernel)) rfl (by decide) ⟨(Nat.le_of_ble_eq_true rfl), (Nat.le_of_ble_eq_true rfl), (by decide +kernel), (by decide +kernel), (Nat.le_of_ble_eq_true rfl)⟩ ?_
  refine P_putR (j := 3) (m' := 497) (P' := [(223, 497), (220, 4), (1, 3968)]) (pc := 43) dX0_init_43 z_CLX0 (by decide) z_wX0_23 rfl rfl rfl (by decide) (by decide) (by decide) (by decide +kernel) (by decide +kernel) z_h0 (z_clr (by decide +kernel) (by decide +kernel)) ?_
  refine V_aload_n (v := vR 223) (pc := 46) dX0_init_46 rfl ?_ (Or.inl rfl)
  refine P_new (k := 230) (mk := 1) (bc2 := 9) (bs2 := 1004) (n2 := 230) (pc := 47) dX0_init_47 z_CLX7 z_wX0_9 z_inX7 z_itX7 (by decide +kernel) rfl rfl (by decide +kernel) (by decide) (hz.mono (m := 229) (Nat.le_of_ble_eq_true rfl)) (z_mk (by decide) (by decide +kernel)) ?_
  refine V_dup (a := vR 230) (pc := 50) dX0_init_50 ?_ (by decide)
  refine V_sipush (x := 200) (pc := 51) dX0_init_51 (by decide) ?_
  refine P_callI (as := [vI 200]) (st := [vR 230, vR 223]) (k := 230) (bc2 := 8) (bs2 := 804) (pc := 54) dX0_init_54 z_mX7_init z_iX7_init z_wX0_11 (i_X7 (σ := σ) (P := [(223, 497), (220, 4), (1, 3968)]) (n := 230) (n2 := 231) (sl := 200) hst (hz.mono (m := 230) (Nat.le_of_ble_eq_true rfl)) (by decide) (by decide) (by decide +kernel) rfl (by decide +kernel) (by decide +kernel) (by decide) rfl (by decide +kernel) (by decide +kernel)) rfl (by decide) ⟨(Nat.le_of_ble_eq_true rfl), (Nat.le_of_ble_eq_true rfl), (by decide +kernel), (by decide +kernel), (Nat.le_of_ble_eq_true rfl)⟩ ?_
  refine P_putR (j := 4) (m' := 481) (P' := [(223, 481), (220, 4), (1, 3968)]) (pc := 57) dX0_init_57 z_CLX0 (by decide) z_wX0_26 rfl rfl rfl (by decide) (by decide) (by decide) (by decide +kernel) (by decide +kernel) z_h0 (z_clr (by decide +kernel) (by decide +kernel)) ?_
  refine V_aload_n (v := vR 223) (pc := 60) dX0_init_60 rfl ?_ (Or.inl rfl)
  refine P_new (k := 232) (mk := 1) (bc2 := 7) (bs2 := 803) (n2 := 232) (pc := 61) dX0_init_61 z_CLX7 z_wX0_9 z_inX7 z_itX7 (by decide +kernel) rfl rfl (by decide +kernel) (by decide) (hz.mono (m := 231) (Nat.le_of_ble_eq_true rfl)) (z_mk (by decide) (by decide +kernel)) ?_
  refine V_dup (a := vR 232) (pc := 64) dX0_init_64 ?_ (by decide)
  refine V_sipush (x := 200) (pc := 65) dX0_init_65 (by decide) ?_
  refine P_callI (as := [vI 200]) (st := [vR 232, vR 223]) (k := 232) (bc2 := 6) (bs2 := 603) (pc := 68) dX0_init_68 z_mX7_init z_iX7_init z_wX0_11 (i_X7 (σ := σ) (P := [(223, 481), (220, 4), (1, 3968)]) (n := 232) (n2 := 233) (sl := 200) hst (hz.mono (m := 232) (Nat.le_of_ble_eq_true rfl)) (by decide) (by decide) (by decide +kernel) rfl (by decide +kernel) (by decide +kernel) (by decide) rfl (by decide +kernel) (by decide +kernel)) rfl (by decide) ⟨(Nat.le_of_ble_eq_true rfl), (Nat.le_of_ble_eq_true rfl), (by decide +kernel), (by decide +kernel), (Nat.le_of_ble_eq_true rfl)⟩ ?_
  refine P_putR (j := 5) (m' := 449) (P' := [(223, 449), (220, 4), (1, 3968)]) (pc := 71) dX0_init_71 z_CLX0 (by decide) z_wX0_29 rfl rfl rfl (by decide) (by decide) (by decide) (by decide +kernel) (by decide +kernel) z_h0 (z_clr (by decide +kernel) (by decide +kernel)) ?_
  refine V_aload_n (v := vR 223) (pc := 74) dX0_init_74 rfl ?_ (Or.inl rfl)
  refine P_new (k := 234) (mk := 1) (bc2 := 5) (bs2 := 602) (n2 := 234) (pc := 75) dX0_init_75 z_CLX7 z_wX0_9 z_inX7 z_itX7 (by decide +kernel) rfl rfl (by decide +kernel) (by decide) (hz.mono (m := 233) (Nat.le_of_ble_eq_true rfl)) (z_mk (by decide) (by decide +kernel)) ?_
  refine V_dup (a := vR 234) (pc := 78) dX0_init_78 ?_ (by decide)
  refine V_sipush (x := 200) (pc := 79) dX0_init_79 (by decide) ?_
  refine P_callI (as := [vI 200]) (st := [vR 234, vR 223]) (k := 234) (bc2 := 4) (bs2 := 402) (pc := 82) dX0_init_82 z_mX7_init z_iX7_init z_wX0_11 (i_X7 (σ := σ) (P := [(223, 449), (220, 4), (1, 3968)]) (n := 234) (n2 := 235) (sl := 200) hst (hz.mono (m := 234) (Nat.le_of_ble_eq_true rfl)) (by decide) (by decide) (by decide +kernel) rfl (by decide +kernel) (by decide +kernel) (by decide) rfl (by decide +kernel) (by decide +kernel)) rfl (by decide) ⟨(Nat.le_of_ble_eq_true rfl), (Nat.le_of_ble_eq_true rfl), (by decide +kernel), (by decide +kernel), (Nat.le_of_ble_eq_true rfl)⟩ ?_
  refine P_putR (j := 6) (m' := 385) (P' := [(223, 385), (220, 4), (1, 3968)]) (pc := 85) dX0_init_85 z_CLX0 (by decide) z_wX0_32 rfl rfl rfl (by decide) (by decide) (by decide) (by decide +kernel) (by decide +kernel) z_h0 (z_clr (by decide +kernel) (by decide +kernel)) ?_
  refine V_aload_n (v := vR 223) (pc := 88) dX0_init_88 rfl ?_ (Or.inl rfl)
  refine P_new (k := 236) (mk := 1) (bc2 := 3) (bs2 := 401) (n2 := 236) (pc := 89) dX0_init_89 z_CLX7 z_wX0_9 z_inX7 z_itX7 (by decide +kernel) rfl rfl (by decide +kernel) (by decide) (hz.mono (m := 235) (Nat.le_of_ble_eq_true rfl)) (z_mk (by decide) (by decide +kernel)) ?_
  refine V_dup (a := vR 236) (pc := 92) dX0_init_92 ?_ (by decide)
  refine V_sipush (x := 200) (pc := 93) dX0_init_93 (by decide) ?_
  refine P_callI (as := [vI 200]) (st := [vR 236, vR 223]) (k := 236) (bc2 := 2) (bs2 := 201) (pc := 96) dX0_init_96 z_mX7_init z_iX7_init z_wX0_11 (i_X7 (σ := σ) (P := [(223, 385), (220, 4), (1, 3968)]) (n := 236) (n2 := 237) (sl := 200) hst (hz.mono (m := 236) (Nat.le_of_ble_eq_true rfl)) (by decide) (by decide) (by decide +kernel) rfl (by decide +kernel) (by decide +kernel) (by decide) rfl (by decide +kernel) (by decide +kernel)) rfl (by decide) ⟨(Nat.le_of_ble_eq_true rfl), (Nat.le_of_ble_eq_true rfl), (by decide +kernel), (by decide +kernel), (Nat.le_of_ble_eq_true rfl)⟩ ?_
  refine P_putR (j := 7) (m' := 257) (P' := [(223, 257), (220, 4), (1, 3968)]) (pc := 99) dX0_init_99 z_CLX0 (by decide) z_wX0_35 rfl rfl rfl (by decide) (by decide) (by decide) (by decide +kernel) (by decide +kernel) z_h0 (z_clr (by decide +kernel) (by decide +kernel)) ?_
  refine V_aload_n (v := vR 223) (pc := 102) dX0_init_102 rfl ?_ (Or.inl rfl)
  refine P_new (k := 238) (mk := 1) (bc2 := 1) (bs2 := 200) (n2 := 238) (pc := 103) dX0_init_103 z_CLX7 z_wX0_9 z_inX7 z_itX7 (by decide +kernel) rfl rfl (by decide +kernel) (by decide) (hz.mono (m := 237) (Nat.le_of_ble_eq_true rfl)) (z_mk (by decide) (by decide +kernel)) ?_
  refine V_dup (a := vR 238) (pc := 106) dX0_init_106 ?_ (by decide)
  refine V_sipush (x := 200) (pc := 107) dX0_init_107 (by decide) ?_
  refine P_callI (as := [vI 200]) (st := [vR 238, vR 223]) (k := 238) (bc2 := 0) (bs2 := 0) (pc := 110) dX0_init_110 z_mX7_init z_iX7_init z_wX0_11 (i_X7 (σ := σ) (P := [(223, 257), (220, 4), (1, 3968)]) (n := 238) (n2 := 239) (sl := 200) hst (hz.mono (m := 238) (Nat.le_of_ble_eq_true rfl)) (by decide) (by decide) (by decide +kernel) rfl (by decide +kernel) (by decide +kernel) (by decide) rfl (by decide +kernel) (by decide +kernel)) rfl (by decide) ⟨(Nat.le_of_ble_eq_true rfl), (Nat.le_of_ble_eq_true rfl), (by decide +kernel), (by decide +kernel), (Nat.le_of_ble_eq_true rfl)⟩ ?_
  refine P_putR (j := 8) (m' := 1) (P' := [(223, 1), (220, 4), (1, 3968)]) (pc := 113) dX0_init_113 z_CLX0 (by decide) z_wX0_38 rfl rfl rfl (by decide) (by decide) (by decide) (by decide +kernel) (by decide +kernel) z_h0 (z_clr (by decide +kernel) (by decide +kernel)) ?_
  refine V_aload_n (v := vR 223) (pc := 116) dX0_init_116 rfl ?_ (Or.inl rfl)
  refine V_aload_n (v := vR 191) (pc := 117) dX0_init_117 rfl ?_ (Or.inl rfl)
  refine P_putR (j := 0) (m' := 0) (P' := [(223, 0), (220, 4), (1, 3968)]) (pc := 118) dX0_init_118 z_CLX0 (by decide) z_wX0_41 rfl rfl rfl (by decide) (by decide) (by decide) (by decide +kernel) (by decide +kernel) z_h0 (z_clr (by decide +kernel) (by decide +kernel)) ?_
  refine P_pop (by decide +kernel) ?_
  exact P_ret (pc := 121) dX0_init_121 rfl
theorem i_X5_220 {l : Launch} {K : z_K} {σ : z_M} (hst : l.stackTraces = false) (hz : z_zs σ 220) : z_C l K mX5_init 3 56 19 21719 [vR 220, vR 191, vR 2] 220 (z_pd [(220, 15), (1, 3968)]) σ (z_IQ 239 (z_pd [(1, 3968)]) σ) := by
  refine P_of (lv := [vR 220, vR 191, vR 2]) hst z_mX5_init rfl ?_ (Nat.le_of_ble_eq_true rfl) rfl
  refine V_aload_n (v := vR 220) (pc := 0) dX5_init_0 rfl ?_ (Or.inl rfl)
  refine V_obj (st := []) (pc := 1) dX5_init_1 z_wX5_3 z_obj1 z_obj2 (by decide) (Nat.le_of_ble_eq_true rfl) (Nat.le_of_ble_eq_true rfl) ?_
  refine V_aload_n (v := vR 220) (pc := 4) dX5_init_4 rfl ?_ (Or.inl rfl)
  refine P_new (k := 221) (mk := 1) (bc2 := 18) (bs2 := 21718) (n2 := 221) (pc := 5) dX5_init_5 z_CLX7 z_wX5_9 z_inX7 z_itX7 (by decide +kernel) rfl rfl (by decide +kernel) (by decide) (hz.mono (m := 220) (Nat.le_of_ble_eq_true rfl)) (z_mk (by decide) (by decide +kernel)) ?_
  refine V_dup (a := vR 221) (pc := 8) dX5_init_8 ?_ (by decide)
  refine V_sipush (x := 20100) (pc := 9) dX5_init_9 (by decide) ?_
  refine P_callI (as := [vI 20100]) (st := [vR 221, vR 220]) (k := 221) (bc2 := 17) (bs2 := 1618) (pc := 12) dX5_init_12 z_mX7_init z_iX7_init z_wX5_11 (i_X7 (σ := σ) (P := [(220, 15), (1, 3968)]) (n := 221) (n2 := 222) (sl := 20100) hst (hz.mono (m := 221) (Nat.le_of_ble_eq_true rfl)) (by decide) (by decide) (by decide +kernel) rfl (by decide +kernel) (by decide +kernel) (by decide) rfl (by decide +kernel) (by decide +kernel)) rfl (by decide) ⟨(Nat.le_of_ble_eq_true rfl), (Nat.le_of_ble_eq_true rfl), (by decide +kernel), (by decide +kernel), (Nat.le_of_ble_eq_true rfl)⟩ ?_
  refine P_putR (j := 3) (m' := 7) (P' := [(220, 7), (1, 3968)]) (pc := 15) dX5_init_15 z_CLX5 (by decide) z_wX5_14 rfl rfl rfl (by decide) (by decide) (by decide) (by decide +kernel) (by decide +kernel) z_h0 (z_clr (by decide +kernel) (by decide +kernel)) ?_
  refine V_aload_n (v := vR 220) (pc := 18) dX5_init_18 rfl ?_ (Or.inl rfl)
  refine V_aload_n (v := vR 191) (pc := 19) dX5_init_19 rfl ?_ (Or.inl rfl)
  refine P_putR (j := 0) (m' := 6) (P' := [(220, 6), (1, 3968)]) (pc := 20) dX5_init_20 z_CLX5 (by decide) z_wX5_20 rfl rfl rfl (by decide) (by decide) (by decide) (by decide +kernel) (by decide +kernel) z_h0 (z_clr (by decide +kernel) (by decide +kernel)) ?_
  refine V_aload_n (v := vR 220) (pc := 23) dX5_init_23 rfl ?_ (Or.inl rfl)
  refine V_aload_n (v := vR 2) (pc := 24) dX5_init_24 rfl ?_ (Or.inl rfl)
  refine P_putR (j := 1) (m' := 4) (P' := [(220, 4), (1, 3968)]) (pc := 25) dX5_init_25 z_CLX5 (by decide) z_wX5_24 rfl rfl rfl (by decide) (by decide) (by decide) (by decide +kernel) (by decide +kernel) z_h0 (z_clr (by decide +kernel) (by decide +kernel)) ?_
  refine V_aload_n (v := vR 220) (pc := 28) dX5_init_28 rfl ?_ (Or.inl rfl)
  refine P_new (k := 223) (mk := 511) (bc2 := 16) (bs2 := 1608) (n2 := 223) (pc := 29) dX5_init_29 z_CLX0 z_wX5_27 z_inX0 z_itX0 (by decide +kernel) rfl rfl (by decide +kernel) (by decide) (hz.mono (m := 222) (Nat.le_of_ble_eq_true rfl)) (z_mk (by decide) (by decide +kernel)) ?_
  refine V_dup (a := vR 223) (pc := 32) dX5_init_32 ?_ (by decide)
  refine V_aload_n (v := vR 191) (pc := 33) dX5_init_33 rfl ?_ (Or.inl rfl)
  refine P_callI (as := [vR 191]) (st := [vR 223, vR 220]) (k := 223) (bc2 := 0) (bs2 := 0) (pc := 34) dX5_init_34 z_mX0_init z_iX0_init z_wX5_29 (i_X0_223 (σ := σ) hst (hz.mono (m := 223) (Nat.le_of_ble_eq_true rfl))) rfl (by decide) ⟨(Nat.le_of_ble_eq_true rfl), (Nat.le_of_ble_eq_true rfl), (by decide +kernel), (by decide +kernel), (Nat.le_of_ble_eq_true rfl)⟩ ?_
  refine P_putR (j := 2) (m' := 0) (P' := [(220, 0), (1, 3968)]) (pc := 37) dX5_init_37 z_CLX5 (by decide) z_wX5_32 rfl rfl rfl (by decide) (by decide) (by decide) (by decide +kernel) (by decide +kernel) z_h0 (z_clr (by decide +kernel) (by decide +kernel)) ?_
  refine P_pop (by decide +kernel) ?_
  exact P_ret (pc := 40) dX5_init_40 rfl
theorem i_X1_240 {l : Launch} {K : z_K} {σ : z_M} (hst : l.stackTraces = false) (hz : z_zs σ 240) : z_C l K mX1_init 2 35 8 807 [vR 240, vR 191, vR 220] 240 (z_pd [(240, 63), (1, 3840)]) σ (z_IQ 248 (z_pd [(1, 3840)]) σ) := by
  refine P_of (lv := [vR 240, vR 191, vR 220]) hst z_mX1_init rfl ?_ (Nat.le_of_ble_eq_true rfl) rfl
  refine V_aload_n (v := vR 240) (pc := 0) dX1_init_0 rfl ?_ (Or.inl rfl)
  refine V_obj (st := []) (pc := 1) dX1_init_1 z_wX1_3 z_obj1 z_obj2 (by decide) (Nat.le_of_ble_eq_true rfl) (Nat.le_of_ble_eq_true rfl) ?_
  refine V_aload_n (v := vR 240) (pc := 4) dX1_init_4 rfl ?_ (Or.inl rfl)
  refine P_new (k := 241) (mk := 1) (bc2 := 7) (bs2 := 806) (n2 := 241) (pc := 5) dX1_init_5 z_CLX7 z_wX1_9 z_inX7 z_itX7 (by decide +kernel) rfl rfl (by decide +kernel) (by decide) (hz.mono (m := 240) (Nat.le_of_ble_eq_true rfl)) (z_mk (by decide) (by decide +kernel)) ?_
  refine V_dup (a := vR 241) (pc := 8) dX1_init_8 ?_ (by decide)
  refine V_sipush (x := 200) (pc := 9) dX1_init_9 (by decide) ?_
  refine P_callI (as := [vI 200]) (st := [vR 241, vR 240]) (k := 241) (bc2 := 6) (bs2 := 606) (pc := 12) dX1_init_12 z_mX7_init z_iX7_init z_wX1_11 (i_X7 (σ := σ) (P := [(240, 63), (1, 3840)]) (n := 241) (n2 := 242) (sl := 200) hst (hz.mono (m := 241) (Nat.le_of_ble_eq_true rfl)) (by decide) (by decide) (by decide +kernel) rfl (by decide +kernel) (by decide +kernel) (by decide) rfl (by decide +kernel) (by decide +kernel)) rfl (by decide) ⟨(Nat.le_of_ble_eq_true rfl), (Nat.le_of_ble_eq_true rfl), (by decide +kernel), (by decide +kernel), (Nat.le_of_ble_eq_true rfl)⟩ ?_
  refine P_putR (j := 2) (m' := 59) (P' := [(240, 59), (1, 3840)]) (pc := 15) dX1_init_15 z_CLX1 (by decide) z_wX1_14 rfl rfl rfl (by decide) (by decide) (by decide) (by decide +kernel) (by decide +kernel) z_h0 (z_clr (by decide +kernel) (by decide +kernel)) ?_
  refine V_aload_n (v := vR 240) (pc := 18) dX1_init_18 rfl ?_ (Or.inl rfl)
  refine P_new (k := 243) (mk := 1) (bc2 := 5) (bs2 := 605) (n2 := 243) (pc := 19) dX1_init_19 z_CLX4 z_wX1_20 z_inX4 z_itX4 (by decide +kernel) rfl rfl (by decide +kernel) (by decide) (hz.mono (m := 242) (Nat.le_of_ble_eq_true rfl)) (z_mk (by decide) (by decide +kernel)) ?_
  refine V_dup (a := vR 243) (pc := 22) dX1_init_22 ?_ (by decide)
  refine V_sipush (x := 201) (pc := 23) dX1_init_23 (by decide) ?_
  refine P_callI (as := [vI 201]) (st := [vR 243, vR 240]) (k := 243) (bc2 := 4) (bs2 := 404) (pc := 26) dX1_init_26 z_mX4_init z_iX4_init z_wX1_22 (i_X4 (σ := σ) (P := [(240, 59), (1, 3840)]) (n := 243) (n2 := 244) (sl := 201) hst (hz.mono (m := 243) (Nat.le_of_ble_eq_true rfl)) (by decide) (by decide) (by decide +kernel) rfl (by decide +kernel) (by decide +kernel) (by decide) rfl (by decide +kernel) (by decide +kernel)) rfl (by decide) ⟨(Nat.le_of_ble_eq_true rfl), (Nat.le_of_ble_eq_true rfl), (by decide +kernel), (by decide +kernel), (Nat.le_of_ble_eq_true rfl)⟩ ?_
  refine P_putR (j := 3) (m' := 51) (P' := [(240, 51), (1, 3840)]) (pc := 29) dX1_init_29 z_CLX1 (by decide) z_wX1_23 rfl rfl rfl (by decide) (by decide) (by decide) (by decide +kernel) (by decide +kernel) z_h0 (z_clr (by decide +kernel) (by decide +kernel)) ?_
  refine V_aload_n (v := vR 240) (pc := 32) dX1_init_32 rfl ?_ (Or.inl rfl)
  refine P_new (k := 245) (mk := 1) (bc2 := 3) (bs2 := 403) (n2 := 245) (pc := 33) dX1_init_33 z_CLX7 z_wX1_9 z_inX7 z_itX7 (by decide +kernel) rfl rfl (by decide +kernel) (by decide) (hz.mono (m := 244) (Nat.le_of_ble_eq_true rfl)) (z_mk (by decide) (by decide +kernel)) ?_
  refine V_dup (a := vR 245) (pc := 36) dX1_init_36 ?_ (by decide)
  refine V_sipush (x := 201) (pc := 37) dX1_init_37 (by decide) ?_
  refine P_callI (as := [vI 201]) (st := [vR 245, vR 240]) (k := 245) (bc2 := 2) (bs2 := 202) (pc := 40) dX1_init_40 z_mX7_init z_iX7_init z_wX1_11 (i_X7 (σ := σ) (P := [(240, 51), (1, 3840)]) (n := 245) (n2 := 246) (sl := 201) hst (hz.mono (m := 245) (Nat.le_of_ble_eq_true rfl)) (by decide) (by decide) (by decide +kernel) rfl (by decide +kernel) (by decide +kernel) (by decide) rfl (by decide +kernel) (by decide +kernel)) rfl (by decide) ⟨(Nat.le_of_ble_eq_true rfl), (Nat.le_of_ble_eq_true rfl), (by decide +kernel), (by decide +kernel), (Nat.le_of_ble_eq_true rfl)⟩ ?_
  refine P_putR (j := 4) (m' := 35) (P' := [(240, 35), (1, 3840)]) (pc := 43) dX1_init_43 z_CLX1 (by decide) z_wX1_27 rfl rfl rfl (by decide) (by decide) (by decide) (by decide +kernel) (by decide +kernel) z_h0 (z_clr (by decide +kernel) (by decide +kernel)) ?_
  refine V_aload_n (v := vR 240) (pc := 46) dX1_init_46 rfl ?_ (Or.inl rfl)
  refine P_new (k := 247) (mk := 1) (bc2 := 1) (bs2 := 201) (n2 := 247) (pc := 47) dX1_init_47 z_CLX7 z_wX1_9 z_inX7 z_itX7 (by decide +kernel) rfl rfl (by decide +kernel) (by decide) (hz.mono (m := 246) (Nat.le_of_ble_eq_true rfl)) (z_mk (by decide) (by decide +kernel)) ?_
  refine V_dup (a := vR 247) (pc := 50) dX1_init_50 ?_ (by decide)
  refine V_sipush (x := 201) (pc := 51) dX1_init_51 (by decide) ?_
  refine P_callI (as := [vI 201]) (st := [vR 247, vR 240]) (k := 247) (bc2 := 0) (bs2 := 0) (pc := 54) dX1_init_54 z_mX7_init z_iX7_init z_wX1_11 (i_X7 (σ := σ) (P := [(240, 35), (1, 3840)]) (n := 247) (n2 := 248) (sl := 201) hst (hz.mono (m := 247) (Nat.le_of_ble_eq_true rfl)) (by decide) (by decide) (by decide +kernel) rfl (by decide +kernel) (by decide +kernel) (by decide) rfl (by decide +kernel) (by decide +kernel)) rfl (by decide) ⟨(Nat.le_of_ble_eq_true rfl), (Nat.le_of_ble_eq_true rfl), (by decide +kernel), (by decide +kernel), (Nat.le_of_ble_eq_true rfl)⟩ ?_
  refine P_putR (j := 5) (m' := 3) (P' := [(240, 3), (1, 3840)]) (pc := 57) dX1_init_57 z_CLX1 (by decide) z_wX1_30 rfl rfl rfl (by decide) (by decide) (by decide) (by decide +kernel) (by decide +kernel) z_h0 (z_clr (by decide +kernel) (by decide +kernel)) ?_
  refine V_aload_n (v := vR 240) (pc := 60) dX1_init_60 rfl ?_ (Or.inl rfl)
  refine V_aload_n (v := vR 191) (pc := 61) dX1_init_61 rfl ?_ (Or.inl rfl)
  refine P_putR (j := 0) (m' := 2) (P' := [(240, 2), (1, 3840)]) (pc := 62) dX1_init_62 z_CLX1 (by decide) z_wX1_33 rfl rfl rfl (by decide) (by decide) (by decide) (by decide +kernel) (by decide +kernel) z_h0 (z_clr (by decide +kernel) (by decide +kernel)) ?_
  refine V_aload_n (v := vR 240) (pc := 65) dX1_init_65 rfl ?_ (Or.inl rfl)
  refine V_aload_n (v := vR 220) (pc := 66) dX1_init_66 rfl ?_ (Or.inl rfl)
  refine P_putR (j := 1) (m' := 0) (P' := [(240, 0), (1, 3840)]) (pc := 67) dX1_init_67 z_CLX1 (by decide) z_wX1_37 rfl rfl rfl (by decide) (by decide) (by decide) (by decide +kernel) (by decide +kernel) z_h0 (z_clr (by decide +kernel) (by decide +kernel)) ?_
  refine P_pop (by decide +kernel) ?_
  exact P_ret (pc := 70) dX1_init_70 rfl
theorem i_X1_249 {l : Launch} {K : z_K} {σ : z_M} (hst : l.stackTraces = false) (hz : z_zs σ 249) : z_C l K mX1_init 2 35 8 807 [vR 249, vR 191, vR 220] 249 (z_pd [(249, 63), (1, 3584)]) σ (z_IQ 257 (z_pd [(1, 3584)]) σ) := by
  refine P_of (lv := [vR 249, vR 191, vR 220]) hst z_mX1_init rfl ?_ (Nat.le_of_ble_eq_true rfl) rfl
  refine V_aload_n (v := vR 249) (pc := 0) dX1_init_0 rfl ?_ (Or.inl rfl)
  refine V_obj (st := []) (pc := 1) dX1_init_1 z_wX1_3 z_obj1 z_obj2 (by decide) (Nat.le_of_ble_eq_true rfl) (Nat.le_of_ble_eq_true rfl) ?_
  refine V_aload_n (v := vR 249) (pc := 4) dX1_init_4 rfl ?_ (Or.inl rfl)
  refine P_new (k := 250) (mk := 1) (bc2 := 7) (bs2 := 806) (n2 := 250) (pc := 5) dX1_init_5 z_CLX7 z_wX1_9 z_inX7 z_itX7 (by decide +kernel) rfl rfl (by decide +kernel) (by decide) (hz.mono (m := 249) (Nat.le_of_ble_eq_true rfl)) (z_mk (by decide) (by decide +kernel)) ?_
  refine V_dup (a := vR 250) (pc := 8) dX1_init_8 ?_ (by decide)
  refine V_sipush (x := 200) (pc := 9) dX1_init_9 (by decide) ?_
  refine P_callI (as := [vI 200]) (st := [vR 250, vR 249]) (k := 250) (bc2 := 6) (bs2 := 606) (pc := 12) dX1_init_12 z_mX7_init z_iX7_init z_wX1_11 (i_X7 (σ := σ) (P := [(249, 63), (1, 3584)]) (n := 250) (n2 := 251) (sl := 200) hst (hz.mono (m := 250) (Nat.le_of_ble_eq_true rfl)) (by decide) (by decide) (by decide +kernel) rfl (by decide +kernel) (by decide +kernel) (by decide) rfl (by decide +kernel) (by decide +kernel)) rfl (by decide) ⟨(Nat.le_of_ble_eq_true rfl), (Nat.le_of_ble_eq_true rfl), (by decide +kernel), (by decide +kernel), (Nat.le_of_ble_eq_true rfl)⟩ ?_
  refine P_putR (j := 2) (m' := 59) (P' := [(249, 59), (1, 3584)]) (pc := 15) dX1_init_15 z_CLX1 (by decide) z_wX1_14 rfl rfl rfl (by decide) (by decide) (by decide) (by decide +kernel) (by decide +kernel) z_h0 (z_clr (by decide +kernel) (by decide +kernel)) ?_
  refine V_aload_n (v := vR 249) (pc := 18) dX1_init_18 rfl ?_ (Or.inl rfl)
  refine P_new (k := 252) (mk := 1) (bc2 := 5) (bs2 := 605) (n2 := 252) (pc := 19) dX1_init_19 z_CLX4 z_wX1_20 z_inX4 z_itX4 (by decide +kernel) rfl rfl (by decide +kernel) (by decide) (hz.mono (m := 251) (Nat.le_of_ble_eq_true rfl)) (z_mk (by decide) (by decide +kernel)) ?_
  refine V_dup (a := vR 252) (pc := 22) dX1_init_22 ?_ (by decide)
  refine V_sipush (x := 201) (pc := 23) dX1_init_23 (by decide) ?_
  refine P_callI (as := [vI 201]) (st := [vR 252, vR 249]) (k := 252) (bc2 := 4) (bs2 := 404) (pc := 26) dX1_init_26 z_mX4_init z_iX4_init z_wX1_22 (i_X4 (σ := σ) (P := [(249, 59), (1, 3584)]) (n := 252) (n2 := 253) (sl := 201) hst (hz.mono (m := 252) (Nat.le_of_ble_eq_true rfl)) (by decide) (by decide) (by decide +kernel) rfl (by decide +kernel) (by decide +kernel) (by decide) rfl (by decide +kernel) (by decide +kernel)) rfl (by decide) ⟨(Nat.le_of_ble_eq_true rfl), (Nat.le_of_ble_eq_true rfl), (by decide +kernel), (by decide +kernel), (Nat.le_of_ble_eq_true rfl)⟩ ?_
  refine P_putR (j := 3) (m' := 51) (P' := [(249, 51), (1, 3584)]) (pc := 29) dX1_init_29 z_CLX1 (by decide) z_wX1_23 rfl rfl rfl (by decide) (by decide) (by decide) (by decide +kernel) (by decide +kernel) z_h0 (z_clr (by decide +kernel) (by decide +kernel)) ?_
  refine V_aload_n (v := vR 249) (pc := 32) dX1_init_32 rfl ?_ (Or.inl rfl)
  refine P_new (k := 254) (mk := 1) (bc2 := 3) (bs2 := 403) (n2 := 254) (pc := 33) dX1_init_33 z_CLX7 z_wX1_9 z_inX7 z_itX7 (by decide +kernel) rfl rfl (by decide +kernel) (by decide) (hz.mono (m := 253) (Nat.le_of_ble_eq_true rfl)) (z_mk (by decide) (by decide +kernel)) ?_
  refine V_dup (a := vR 254) (pc := 36) dX1_init_36 ?_ (by decide)
  refine V_sipush (x := 201) (pc := 37) dX1_init_37 (by decide) ?_
  refine P_callI (as := [vI 201]) (st := [vR 254, vR 249]) (k := 254) (bc2 := 2) (bs2 := 202) (pc := 40) dX1_init_40 z_mX7_init z_iX7_init z_wX1_11 (i_X7 (σ := σ) (P := [(249, 51), (1, 3584)]) (n := 254) (n2 := 255) (sl := 201) hst (hz.mono (m := 254) (Nat.le_of_ble_eq_true rfl)) (by decide) (by decide) (by decide +kernel) rfl (by decide +kernel) (by decide +kernel) (by decide) rfl (by decide +kernel) (by decide +kernel)) rfl (by decide) ⟨(Nat.le_of_ble_eq_true rfl), (Nat.le_of_ble_eq_true rfl), (by decide +kernel), (by decide +kernel), (Nat.le_of_ble_eq_true rfl)⟩ ?_
  refine P_putR (j := 4) (m' := 35) (P' := [(249, 35), (1, 3584)]) (pc := 43) dX1_init_43 z_CLX1 (by decide) z_wX1_27 rfl rfl rfl (by decide) (by decide) (by decide) (by decide +kernel) (by decide +kernel) z_h0 (z_clr (by decide +kernel) (by decide +kernel)) ?_
  refine V_aload_n (v := vR 249) (pc := 46) dX1_init_46 rfl ?_ (Or.inl rfl)
  refine P_new (k := 256) (mk := 1) (bc2 := 1) (bs2 := 201) (n2 := 256) (pc := 47) dX1_init_47 z_CLX7 z_wX1_9 z_inX7 z_itX7 (by decide +kernel) rfl rfl (by decide +kernel) (by decide) (hz.mono (m := 255) (Nat.le_of_ble_eq_true rfl)) (z_mk (by decide) (by decide +kernel)) ?_
  refine V_dup (a := vR 256) (pc := 50) dX1_init_50 ?_ (by decide)
  refine V_sipush (x := 201) (pc := 51) dX1_init_51 (by decide) ?_
  refine P_callI (as := [vI 201]) (st := [vR 256, vR 249]) (k := 256) (bc2 := 0) (bs2 := 0) (pc := 54) dX1_init_54 z_mX7_init z_iX7_init z_wX1_11 (i_X7 (σ := σ) (P := [(249, 35), (1, 3584)]) (n := 256) (n2 := 257) (sl := 201) hst (hz.mono (m := 256) (Nat.le_of_ble_eq_true rfl)) (by decide) (by decide) (by decide +kernel) rfl (by decide +kernel) (by decide +kernel) (by decide) rfl (by decide +kernel) (by decide +kernel)) rfl (by decide) ⟨(Nat.le_of_ble_eq_true rfl), (Nat.le_of_ble_eq_true rfl), (by decide +kernel), (by decide +kernel), (Nat.le_of_ble_eq_true rfl)⟩ ?_
  refine P_putR (j := 5) (m' := 3) (P' := [(249, 3), (1, 3584)]) (pc := 57) dX1_init_57 z_CLX1 (by decide) z_wX1_30 rfl rfl rfl (by decide) (by decide) (by decide) (by decide +kernel) (by decide +kernel) z_h0 (z_clr (by decide +kernel) (by decide +kernel)) ?_
  refine V_aload_n (v := vR 249) (pc := 60) dX1_init_60 rfl ?_ (Or.inl rfl)
  refine V_aload_n (v := vR 191) (pc := 61) dX1_init_61 rfl ?_ (Or.inl rfl)
  refine P_putR (j := 0) (m' := 2) (P' := [(249, 2), (1, 3584)]) (pc := 62) dX1_init_62 z_CLX1 (by decide) z_wX1_33 rfl rfl rfl (by decide) (by decide) (by decide) (by decide +kernel) (by decide +kernel) z_h0 (z_clr (by decide +kernel) (by decide +kernel)) ?_
  refine V_aload_n (v := vR 249) (pc := 65) dX1_init_65 rfl ?_ (Or.inl rfl)
  refine V_aload_n (v := vR 220) (pc := 66) dX1_init_66 rfl ?_ (Or.inl rfl)
  refine P_putR (j := 1) (m' := 0) (P' := [(249, 0), (1, 3584)]) (pc := 67) dX1_init_67 z_CLX1 (by decide) z_wX1_37 rfl rfl rfl (by decide) (by decide) (by decide) (by decide +kernel) (by decide +kernel) z_h0 (z_clr (by decide +kernel) (by decide +kernel)) ?_
  refine P_pop (by decide +kernel) ?_
  exact P_ret (pc := 70) dX1_init_70 rfl
theorem i_X0_279 {l : Launch} {K : z_K} {σ : z_M} (hst : l.stackTraces = false) (hz : z_zs σ 279) : z_C l K mX0_init 2 35 16 1608 [vR 279, vR 191] 279 (z_pd [(279, 511), (258, 32), (1, 3072)]) σ (z_IQ 295 (z_pd [(258, 32), (1, 3072)]) σ) := by
  refine P_of (lv := [vR 279, vR 191]) hst z_mX0_init rfl ?_ (Nat.le_of_ble_eq_true rfl) rfl
  refine V_aload_n (v := vR 279) (pc := 0) dX0_init_0 rfl ?_ (Or.inl rfl)
  refine V_obj (st := []) (pc := 1) dX0_init_1 z_wX0_3 z_obj1 z_obj2 (by decide) (Nat.le_of_ble_eq_true rfl) (Nat.le_of_ble_eq_true rfl) ?_
  refine V_aload_n (v := vR 279) (pc := 4) dX0_init_4 rfl ?_ (Or.inl rfl)
  refine P_new (k := 280) (mk := 1) (bc2 := 15) (bs2 := 1607) (n2 := 280) (pc := 5) dX0_init_5 z_CLX7 z_wX0_9 z_inX7 z_itX7 (by decide +kernel) rfl rfl (by decide +kernel) (by decide) (hz.mono (m := 279) (Nat.le_of_ble_eq_true rfl)) (z_mk (by decide) (by decide +kernel)) ?_
  refine V_dup (a := vR 280) (pc := 8) dX0_init_8 ?_ (by decide)
  refine V_sipush (x := 200) (pc := 9) dX0_init_9 (by decide) ?_
  refine P_callI (as := [vI 200]) (st := [vR 280, vR 279]) (k := 280) (bc2 := 14) (bs2 := 1407) (pc := 12) dX0_init_12 z_mX7_init z_iX7_init z_wX0_11 (i_X7 (σ := σ) (P := [(279, 511), (258, 32), (1, 3072)]) (n := 280) (n2 := 281) (sl := 200) hst (hz.mono (m := 280) (Nat.le_of_ble_eq_true rfl)) (by decide) (by decide) (by decide +kernel) rfl (by decide +kernel) (by decide +kernel) (by decide) rfl (by decide +kernel) (by decide +kernel)) rfl (by decide) ⟨(Nat.le_of_ble_eq_true rfl), (Nat.le_of_ble_eq_true rfl), (by decide +kernel), (by decide +kernel), (Nat.le_of_ble_eq_true rfl)⟩ ?_
  refine P_putR (j := 1) (m' := 509) (P' := [(279, 509), (258, 32), (1, 3072)]) (pc := 15) dX0_init_15 z_CLX0 (by decide) z_wX0_14 rfl rfl rfl (by decide) (by decide) (by decide) (by decide +kernel) (by decide +kernel) z_h0 (z_clr (by decide +kernel) (by decide +kernel)) ?_
  refine V_aload_n (v := vR 279) (pc := 18) dX0_init_18 rfl ?_ (Or.inl rfl)
  refine P_new (k := 282) (mk := 1) (bc2 := 13) (bs2 := 1406) (n2 := 282) (pc := 19) dX0_init_19 z_CLX7 z_wX0_9 z_inX7 z_itX7 (by decide +kernel) rfl rfl (by decide +kernel) (by decide) (hz.mono (m := 281) (Nat.le_of_ble_eq_true rfl)) (z_mk (by decide) (by decide +kernel)) ?_
  refine V_dup (a := vR 282) (pc := 22) dX0_init_22 ?_ (by decide)
  refine V_sipush (x := 200) (pc := 23) dX0_init_23 (by decide) ?_
  refine P_callI (as := [vI 200]) (st := [vR 282, vR 279]) (k := 282) (bc2 := 12) (bs2 := 1206) (pc := 26) dX0_init_26 z_mX7_init z_iX7_init z_wX0_11 (i_X7 (σ := σ) (P := [(279, 509), (258, 32), (1, 3072)]) (n := 282) (n2 := 283) (sl := 200) hst (hz.mono (m := 282) (Nat.le_of_ble_eq_true rfl)) (by decide) (by decide) (by decide +kernel) rfl (by decide +kernel) (by decide +kernel) (by decide) rfl (by decide +kernel) (by decide +kernel)) rfl (by decide) ⟨(Nat.le_of_ble_eq_true rfl), (Nat.le_of_ble_eq_true rfl), (by decide +kernel), (by decide +kernel), (Nat.le_of_ble_eq_true rfl)⟩ ?_
  refine P_putR (j := 2) (m' := 505) (P' := [(279, 505), (258, 32), (1, 3072)]) (pc := 29) dX0_init_29 z_CLX0 (by decide) z_wX0_20 rfl rfl rfl (by decide) (by decide) (by decide) (by decide +kernel) (by decide +kernel) z_h0 (z_clr (by decide +kernel) (by decide +kernel)) ?_
  refine V_aload_n (v := vR 279) (pc := 32) dX0_init_32 rfl ?_ (Or.inl rfl)
  refine P_new (k := 284) (mk := 1) (bc2 := 11) (bs2 := 1205) (n2 := 284) (pc := 33) dX0_init_33 z_CLX7 z_wX0_9 z_inX7 z_itX7 (by decide +kernel) rfl rfl (by decide +kernel) (by decide) (hz.mono (m := 283) (Nat.le_of_ble_eq_true rfl)) (z_mk (by decide) (by decide +kernel)) ?_
  refine V_dup (a := vR 284) (pc := 36) dX0_init_36 ?_ (by decide)
  refine V_sipush (x := 200) (pc := 37) dX0_init_37 (by decide) ?_
  refine P_callI (as := [vI 200]) (st := [vR 284, vR 279]) (k := 284) (bc2 := 10) (bs2 := 1005) (pc := 40) dX0_init_40 z_mX7_init z_iX7_init z_wX0_11 (i_X7 (σ := σ) (P := [(279, 505), (258, 32), (1, 3072)]) (n := 284) (n2 := 285) (sl := 200) hst (hz.mono (m := 284) (Nat.le_of_ble_eq_true rfl)) (by decide) (by decide) (by decide +kernel) rfl (by decide +kernel) (by decide +kernel) (by decide) rfl (by decide +kernel) (by decide +kernel)) rfl (by decide) ⟨(Nat.le_of_ble_eq_true rfl), (Nat.le_of_ble_eq_true rfl), (by decide +kernel), (by decide +kernel), (Nat.le_of_ble_eq_true rfl)⟩ ?_
  refine P_putR (j := 3) (m' := 497) (P' := [(279, 497), (258, 32), (1, 3072)]) (pc := 43) dX0_init_43 z_CLX0 (by decide) z_wX0_23 rfl rfl rfl (by decide) (by decide) (by decide) (by decide +kernel) (by decide +kernel) z_h0 (z_clr (by decide +kernel) (by decide +kernel)) ?_
  refine V_aload_n (v := vR 279) (pc := 46) dX0_init_46 rfl ?_ (Or.inl rfl)
  refine P_new (k := 286) (mk := 1) (bc2 := 9) (bs2 := 1004) (n2 := 286) (pc := 47) dX0_init_47 z_CLX7 z_wX0_9 z_inX7 z_itX7 (by decide +kernel) rfl rfl (by decide +kernel) (by decide) (hz.mono (m := 285) (Nat.le_of_ble_eq_true rfl)) (z_mk (by decide) (by decide +kernel)) ?_
  refine V_dup (a := vR 286) (pc := 50) dX0_init_50 ?_ (by decide)
  refine V_sipush (x := 200) (pc := 51) dX0_init_51 (by decide) ?_
  refine P_callI (as := [vI 200]) (st := [vR 286, vR 279]) (k := 286) (bc2 := 8) (bs2 := 804) (pc := 54) dX0_init_54 z_mX7_init z_iX7_init z_wX0_11 (i_X7 (σ := σ) (P := [(279, 497), (258, 32), (1, 3072)]) (n := 286) (n2 := 287) (sl := 200) hst (hz.mono (m := 286) (Nat.le_of_ble_eq_true rfl)) (by decide) (by decide) (by decide +kernel) rfl (by decide +kernel) (by decide +kernel) (by decide) rfl (by decide +kernel) (by decide +kernel)) rfl (by decide) ⟨(Nat.le_of_ble_eq_true rfl), (Nat.le_of_ble_eq_true rfl), (by decide +kernel), (by decide +kernel), (Nat.le_of_ble_eq_true rfl)⟩ ?_
  refine P_putR (j := 4) (m' := 481) (P' := [(279, 481), (258, 32), (1, 3072)]) (pc := 57) dX0_init_57 z_CLX0 (by decide) z_wX0_26 rfl rfl rfl (by decide) (by decide) (by decide) (by decide +kernel) (by decide +kernel) z_h0 (z_clr (by decide +kernel) (by decide +kernel)) ?_
  refine V_aload_n (v := vR 279) (pc := 60) dX0_init_60 rfl ?_ (Or.inl rfl)
  refine P_new (k := 288) (mk := 1) (bc2 := 7) (bs2 := 803) (n2 := 288) (pc := 61) dX0_init_61 z_CLX7 z_wX0_9 z_inX7 z_itX7 (by decide +kernel) rfl rfl (by decide +kernel) (by decide) (hz.mono (m := 287) (Nat.le_of_ble_eq_true rfl)) (z_mk (by decide) (by decide +kernel)) ?_
  refine V_dup (a := vR 288) (pc := 64) dX0_init_64 ?_ (by decide)
  refine V_sipush (x := 200) (pc := 65) dX0_init_65 (by decide) ?_
  refine P_callI (as := [vI 200]) (st := [vR 288, vR 279]) (k := 288) (bc2 := 6) (bs2 := 603) (pc := 68) dX0_init_68 z_mX7_init z_iX7_init z_wX0_11 (i_X7 (σ := σ) (P := [(279, 481), (258, 32), (1, 3072)]) (n := 288) (n2 := 289) (sl := 200) hst (hz.mono (m := 288) (Nat.le_of_ble_eq_true rfl)) (by decide) (by decide) (by decide +kernel) rfl (by decide +kernel) (by decide +kernel) (by decide) rfl (by decide +kernel) (by decide +kernel)) rfl (by decide) ⟨(Nat.le_of_ble_eq_true rfl), (Nat.le_of_ble_eq_true rfl), (by decide +kernel), (by decide +kernel), (Nat.le_of_ble_eq_true rfl)⟩ ?_
  refine P_putR (j := 5) (m' := 449) (P' := [(279, 449), (258, 32), (1, 3072)]) (pc := 71) dX0_init_71 z_CLX0 (by decide) z_wX0_29 rfl rfl rfl (by decide) (by decide) (by decide) (by decide +kernel) (by decide +kernel) z_h0 (z_clr (by decide +kernel) (by decide +kernel)) ?_
  refine V_aload_n (v := vR 279) (pc := 74) dX0_init_74 rfl ?_ (Or.inl rfl)
  refine P_new (k := 290) (mk := 1) (bc2 := 5) (bs2 := 602) (n2 := 290) (pc := 75) dX0_init_75 z_CLX7 z_wX0_9 z_inX7 z_itX7 (by decide +kernel) rfl rfl (by decide +kernel) (by decide) (hz.mono (m := 289) (Nat.le_of_ble_eq_true rfl)) (z_mk (by decide) (by decide +kernel)) ?_
  refine V_dup (a := vR 290) (pc := 78) dX0_init_78 ?_ (by decide)
  refine V_sipush (x := 200) (pc := 79) dX0_init_79 (by decide) ?_
  refine P_callI (as := [vI 200]) (st := [vR 290, vR 279]) (k := 290) (bc2 := 4) (bs2 := 402) (pc := 82) dX0_init_82 z_mX7_init z_iX7_init z_wX0_11 (i_X7 (σ := σ) (P := [(279, 449), (258, 32), (1, 3072)]) (n := 290) (n2 := 291) (sl := 200) hst (hz.mono (m := 290) (Nat.le_of_ble_eq_true rfl)) (by decide) (by decide) (by decide +kernel) rfl (by decide +kernel) (by decide +kernel) (by decide) rfl (by decide +kernel) (by decide +kernel)) rfl (by decide) ⟨(Nat.le_of_ble_eq_true rfl), (Nat.le_of_ble_eq_true rfl), (by decide +kernel), (by decide +kernel), (Nat.le_of_ble_eq_true rfl)⟩ ?_
  refine P_putR (j := 6) (m' := 385) (P' := [(279, 385), (258, 32), (1, 3072)]) (pc := 85) dX0_init_85 z_CLX0 (by decide) z_wX0_32 rfl rfl rfl (by decide) (by decide) (by decide) (by decide +kernel) (by decide +kernel) z_h0 (z_clr (by decide +kernel) (by decide +kernel)) ?_
  refine V_aload_n (v := vR 279) (pc := 88) dX0_init_88 rfl ?_ (Or.inl rfl)
  refine P_new (k := 292) (mk := 1) (bc2 := 3) (bs2 := 401) (n2 := 292) (pc := 89) dX0_init_89 z_CLX7 z_wX0_9 z_inX7 z_itX7 (by decide +kernel) rfl rfl (by decide +kernel) (by decide) (hz.mono (m := 291) (Nat.le_of_ble_eq_true rfl)) (z_mk (by decide) (by decide +kernel)) ?_
  refine V_dup (a := vR 292) (pc := 92) dX0_init_92 ?_ (by decide)
  refine V_sipush (x := 200) (pc := 93) dX0_init_93 (by decide) ?_
  refine P_callI (as := [vI 200]) (st := [vR 292, vR 279]) (k := 292) (bc2 := 2) (bs2 := 201) (pc := 96) dX0_init_96 z_mX7_init z_iX7_init z_wX0_11 (i_X7 (σ := σ) (P := [(279, 385), (258, 32), (1, 3072)]) (n := 292) (n2 := 293) (sl := 200) hst (hz.mono (m := 292) (Nat.le_of_ble_eq_true rfl)) (by decide) (by decide) (by decide +kernel) rfl (by decide +kernel) (by decide +kernel) (by decide) rfl (by decide +kernel) (by decide +kernel)) rfl (by decide) ⟨(Nat.le_of_ble_eq_true rfl), (Nat.le_of_ble_eq_true rfl), (by decide +kernel), (by decide +kernel), (Nat.le_of_ble_eq_true rfl)⟩ ?_
  refine P_putR (j := 7) (m' := 257) (P' := [(279, 257), (258, 32), (1, 3072)]) (pc := 99) dX0_init_99 z_CLX0 (by decide) z_wX0_35 rfl rfl rfl (by decide) (by decide) (by decide) (by decide +kernel) (by decide +kernel) z_h0 (z_clr (by decide +kernel) (by decide +kernel)) ?_
  refine V_aload_n (v := vR 279) (pc := 102) dX0_init_102 rfl ?_ (Or.inl rfl)
  refine P_new (k := 294) (mk := 1) (bc2 := 1) (bs2 := 200) (n2 := 294) (pc := 103) dX0_init_103 z_CLX7 z_wX0_9 z_inX7 z_itX7 (by decide +kernel) rfl rfl (by decide +kernel) (by decide) (hz.mono (m := 293) (Nat.le_of_ble_eq_true rfl)) (z_mk (by decide) (by decide +kernel)) ?_
  refine V_dup (a := vR 294) (pc := 106) dX0_init_106 ?_ (by decide)
  refine V_sipush (x := 200) (pc := 107) dX0_init_107 (by decide) ?_
  refine P_callI (as := [vI 200]) (st := [vR 294, vR 279]) (k := 294) (bc2 := 0) (bs2 := 0) (pc := 110) dX0_init_110 z_mX7_init z_iX7_init z_wX0_11 (i_X7 (σ := σ) (P := [(279, 257), (258, 32), (1, 3072)]) (n := 294) (n2 := 295) (sl := 200) hst (hz.mono (m := 294) (Nat.le_of_ble_eq_true rfl)) (by decide) (by decide) (by decide +kernel) rfl (by decide +kernel) (by decide +kernel) (by decide) rfl (by decide +kernel) (by decide +kernel)) rfl (by decide) ⟨(Nat.le_of_ble_eq_true rfl), (Nat.le_of_ble_eq_true rfl), (by decide +kernel), (by decide +kernel), (Nat.le_of_ble_eq_true rfl)⟩ ?_
  refine P_putR (j := 8) (m' := 1) (P' := [(279, 1), (258, 32), (1, 3072)]) (pc := 113) dX0_init_113 z_CLX0 (by decide) z_wX0_38 rfl rfl rfl (by decide) (by decide) (by decide) (by decide +kernel) (by decide +kernel) z_h0 (z_clr (by decide +kernel) (by decide +kernel)) ?_
  refine V_aload_n (v := vR 279) (pc := 116) dX0_init_116 rfl ?_ (Or.inl rfl)
  refine V_aload_n (v := vR 191) (pc := 117) dX0_init_117 rfl ?_ (Or.inl rfl)
  refine P_putR (j := 0) (m' := 0) (P' := [(279, 0), (258, 32), (1, 3072)]) (pc := 118) dX0_init_118 z_CLX0 (by decide) z_wX0_41 rfl rfl rfl (by decide) (by decide) (by decide) (by decide +kernel) (by decide +kernel) z_h0 (z_clr (by decide +kernel) (by decide +kernel)) ?_
  refine P_pop (by decide +kernel) ?_
  exact P_ret (pc := 121) dX0_init_121 rfl
theorem i_X3_258 {l : Launch} {K : z_K} {σ : z_M} (hst : l.stackTraces = false) (hz : z_zs σ 258) : z_C l K mX3_init 3 56 37 3629 [vR 258, vR 6, vR 191, vR 220, vR 240, vR 2] 258 (z_pd [(258, 65535), (1, 3072)]) σ (z_IQ 295 (z_pd [(1, 3072)]) σ) := by
  refine P_of (lv := [vR 258, vR 6, vR 191, vR 220, vR 240, vR 2]) hst z_mX3_init rfl ?_ (Nat.le_of_ble_eq_true rfl) rfl
  refine V_aload_n (v := vR 258) (pc := 0) dX3_init_0 rfl ?_ (Or.inl rfl)
  refine V_obj (st := []) (pc := 1) dX3_init_1 z_wX3_3 z_obj1 z_obj2 (by decide) (Nat.le_of_ble_eq_true rfl) (Nat.le_of_ble_eq_true rfl) ?_
  refine V_aload_n (v := vR 258) (pc := 4) dX3_init_4 rfl ?_ (Or.inl rfl)
  refine P_new (k := 259) (mk := 1) (bc2 := 36) (bs2 := 3628) (n2 := 259) (pc := 5) dX3_init_5 z_CLX7 z_wX3_9 z_inX7 z_itX7 (by decide +kernel) rfl rfl (by decide +kernel) (by decide) (hz.mono (m := 258) (Nat.le_of_ble_eq_true rfl)) (z_mk (by decide) (by decide +kernel)) ?_
  refine V_dup (a := vR 259) (pc := 8) dX3_init_8 ?_ (by decide)
  refine V_sipush (x := 200) (pc := 9) dX3_init_9 (by decide) ?_
  refine P_callI (as := [vI 200]) (st := [vR 259, vR 258]) (k := 259) (bc2 := 35) (bs2 := 3428) (pc := 12) dX3_init_12 z_mX7_init z_iX7_init z_wX3_11 (i_X7 (σ := σ) (P := [(258, 65535), (1, 3072)]) (n := 259) (n2 := 260) (sl := 200) hst (hz.mono (m := 259) (Nat.le_of_ble_eq_true rfl)) (by decide) (by decide) (by decide +kernel) rfl (by decide +kernel) (by decide +kernel) (by decide) rfl (by decide +kernel) (by decide +kernel)) rfl (by decide) ⟨(Nat.le_of_ble_eq_true rfl), (Nat.le_of_ble_eq_true rfl), (by decide +kernel), (by decide +kernel), (Nat.le_of_ble_eq_true rfl)⟩ ?_
  refine P_putR (j := 6) (m' := 65471) (P' := [(258, 65471), (1, 3072)]) (pc := 15) dX3_init_15 z_CLX3 (by decide) z_wX3_14 rfl rfl rfl (by decide) (by decide) (by decide) (by decide +kernel) (by decide +kernel) z_h0 (z_clr (by decide +kernel) (by decide +kernel)) ?_
  refine V_aload_n (v := vR 258) (pc := 18) dX3_init_18 rfl ?_ (Or.inl rfl)
  refine P_new (k := 261) (mk := 1) (bc2 := 34) (bs2 := 3427) (n2 := 261) (pc := 19) dX3_init_19 z_CLX7 z_wX3_9 z_inX7 z_itX7 (by decide +kernel) rfl rfl (by decide +kernel) (by decide) (hz.mono (m := 260) (Nat.le_of_ble_eq_true rfl)) (z_mk (by decide) (by decide +kernel)) ?_
  refine V_dup (a := vR 261) (pc := 22) dX3_init_22 ?_ (by decide)
  refine V_sipush (x := 200) (pc := 23) dX3_init_23 (by decide) ?_
  refine P_callI (as := [vI 200]) (st := [vR 261, vR 258]) (k := 261) (bc2 := 33) (bs2 := 3227) (pc := 26) dX3_init_26 z_mX7_init z_iX7_init z_wX3_11 (i_X7 (σ := σ) (P := [(258, 65471), (1, 3072)]) (n := 261) (n2 := 262) (sl := 200) hst (hz.mono (m := 261) (Nat.le_of_ble_eq_true rfl)) (by decide) (by decide) (by decide +kernel) rfl (by decide +kernel) (by decide +kernel) (by decide) rfl (by decide +kernel) (by decide +kernel)) rfl (by decide) ⟨(Nat.le_of_ble_eq_true rfl), (Nat.le_of_ble_eq_true rfl), (by decide +kernel), (by decide +kernel), (Nat.le_of_ble_eq_true rfl)⟩ ?_
  refine P_putR (j := 7) (m' := 65343) (P' := [(258, 65343), (1, 3072)]) (pc := 29) dX3_init_29 z_CLX3 (by decide) z_wX3_20 rfl rfl rfl (by decide) (by decide) (by decide) (by decide +kernel) (by decide +kernel) z_h0 (z_clr (by decide +kernel) (by decide +kernel)) ?_
  refine V_aload_n (v := vR 258) (pc := 32) dX3_init_32 rfl ?_ (Or.inl rfl)
  refine P_new (k := 263) (mk := 1) (bc2 := 32) (bs2 := 3226) (n2 := 263) (pc := 33) dX3_init_33 z_CLX7 z_wX3_9 z_inX7 z_itX7 (by decide +kernel) rfl rfl (by decide +kernel) (by decide) (hz.mono (m := 262) (Nat.le_of_ble_eq_true rfl)) (z_mk (by decide) (by decide +kernel)) ?_
  refine V_dup (a := vR 263) (pc := 36) dX3_init_36 ?_ (by decide)
  refine V_sipush (x := 200) (pc := 37) dX3_init_37 (by decide) ?_
  refine P_callI (as := [vI 200]) (st := [vR 263, vR 258]) (k := 263) (bc2 := 31) (bs2 := 3026) (pc := 40) dX3_init_40 z_mX7_init z_iX7_init z_wX3_11 (i_X7 (σ := σ) (P := [(258, 65343), (1, 3072)]) (n := 263) (n2 := 264) (sl := 200) hst (hz.mono (m := 263) (Nat.le_of_ble_eq_true rfl)) (by decide) (by decide) (by decide +kernel) rfl (by decide +kernel) (by decide +kernel) (by decide) rfl (by decide +kernel) (by decide +kernel)) rfl (by decide) ⟨(Nat.le_of_ble_eq_true rfl), (Nat.le_of_ble_eq_true rfl), (by decide +kernel), (by decide +kernel), (Nat.le_of_ble_eq_true rfl)⟩ ?_
  refine P_putR (j := 8) (m' := 65087) (P' := [(258, 65087), (1, 3072)]) (pc := 43) dX3_init_43 z_CLX3 (by decide) z_wX3_23 rfl rfl rfl (by decide) (by decide) (by decide) (by decide +kernel) (by decide +kernel) z_h0 (z_clr (by decide +kernel) (by decide +kernel)) ?_
  refine V_aload_n (v := vR 258) (pc := 46) dX3_init_46 rfl ?_ (Or.inl rfl)
  refine P_new (k := 265) (mk := 1) (bc2 := 30) (bs2 := 3025) (n2 := 265) (pc := 47) dX3_init_47 z_CLX7 z_wX3_9 z_inX7 z_itX7 (by decide +kernel) rfl rfl (by decide +kernel) (by decide) (hz.mono (m := 264) (Nat.le_of_ble_eq_true rfl)) (z_mk (by decide) (by decide +kernel)) ?_
  refine V_dup (a := vR 265) (pc := 50) dX3_init_50 ?_ (by decide)
  refine V_sipush (x := 200) (pc := 51) dX3_init_51 (by decide) ?_
  refine P_callI (as := [vI 200]) (st := [vR 265, vR 258]) (k := 265) (bc2 := 29) (bs2 := 2825) (pc := 54) dX3_init_54 z_mX7_init z_iX7_init z_wX3_11 (i_X7 (σ := σ) (P := [(258, 65087), (1, 3072)]) (n := 265) (n2 := 266) (sl := 200) hst (hz.mono (m := 265) (Nat.le_of_ble_eq_true rfl)) (by decide) (by decide) (by decide +kernel) rfl (by decide +kernel) (by decide +kernel) (by decide) rfl (by decide +kernel) (by decide +kernel)) rfl (by decide) ⟨(Nat.le_of_ble_eq_true rfl), (Nat.le_of_ble_eq_true rfl), (by decide +kernel), (by decide +kernel), (Nat.le_of_ble_eq_true rfl)⟩ ?_
  refine P_putR (j := 9) (m' := 64575) (P' := [(258, 64575), (1, 3072)]) (pc := 57) dX3_init_57 z_CLX3 (by decide) z_wX3_26 rfl rfl rfl (by decide) (by decide) (by decide) (by decide +kernel) (by decide +kernel) z_h0 (z_clr (by decide +kernel) (by decide +kernel)) ?_
  refine V_aload_n (v := vR 258) (pc := 60) dX3_init_60 rfl ?_ (Or.inl rfl)
  refine P_new (k := 267) (mk := 1) (bc2 := 28) (bs2 := 2824) (n2 := 267) (pc := 61) dX3_init_61 z_CLX7 z_wX3_9 z_inX7 z_itX7 (by decide +kernel) rfl rfl (by decide +kernel) (by decide) (hz.mono (m := 266) (Nat.le_of_ble_eq_true rfl)) (z_mk (by decide) (by decide +kernel)) ?_
  refine V_dup (a := vR 267) (pc := 64) dX3_init_64 ?_ (by decide)
  refine V_sipush (x := 200) (pc := 65) dX3_init_65 (by decide) ?_
  refine P_callI (as := [vI 200]) (st := [vR 267, vR 258]) (k := 267) (bc2 := 27) (bs2 := 2624) (pc := 68) dX3_init_68 z_mX7_init z_iX7_init z_wX3_11 (i_X7 (σ := σ) (P := [(258, 64575), (1, 3072)]) (n := 267) (n2 := 268) (sl := 200) hst (hz.mono (m := 267) (Nat.le_of_ble_eq_true rfl)) (by decide) (by decide) (by decide +kernel) rfl (by decide +kernel) (by decide +kernel) (by decide) rfl (by decide +kernel) (by decide +kernel)) rfl (by decide) ⟨(Nat.le_of_ble_eq_true rfl), (Nat.le_of_ble_eq_true rfl), (by decide +kernel), (by decide +kernel), (Nat.le_of_ble_eq_true rfl)⟩ ?_
  refine P_putR (j := 10) (m' := 63551) (P' := [(258, 63551), (1, 3072)]) (pc := 71) dX3_init_71 z_CLX3 (by decide) z_wX3_29 rfl rfl rfl (by decide) (by decide) (by decide) (by decide +kernel) (by decide +kernel) z_h0 (z_clr (by decide +kernel) (by decide +kernel)) ?_
  refine V_aload_n (v := vR 258) (pc := 74) dX3_init_74 rfl ?_ (Or.inl rfl)
  refine P_new (k := 269) (mk := 1) (bc2 := 26) (bs2 := 2623) (n2 := 269) (pc := 75) dX3_init_75 z_CLX7 z_wX3_9 z_inX7 z_itX7 (by decide +kernel) rfl rfl (by decide +kernel) (by decide) (hz.mono (m := 268) (Nat.le_of_ble_eq_true rfl)) (z_mk (by decide) (by decide +kernel)) ?_
  refine V_dup (a := vR 269) (pc := 78) dX3_init_78 ?_ (by decide)
  refine V_sipush (x := 200) (pc := 79) dX3_init_79 (by decide) ?_
  refine P_callI (as := [vI 200]) (st := [vR 269, vR 258]) (k := 269) (bc2 := 25) (bs2 := 2423) (pc := 82) dX3_init_82 z_mX7_init z_iX7_init z_wX3_11 (i_X7 (σ := σ) (P := [(258, 63551), (1, 3072)]) (n := 269) (n2 := 270) (sl := 200) hst (hz.mono (m := 269) (Nat.le_of_ble_eq_true rfl)) (by decide) (by decide) (by decide +kernel) rfl (by decide +kernel) (by decide +kernel) (by decide) rfl (by decide +kernel) (by decide +kernel)) rfl (by decide) ⟨(Nat.le_of_ble_eq_true rfl), (Nat.le_of_ble_eq_true rfl), (by decide +kernel), (by decide +kernel), (Nat.le_of_ble_eq_true rfl)⟩ ?_
  refine P_putR (j := 11) (m' := 61503) (P' := [(258, 61503), (1, 3072)]) (pc := 85) dX3_init_85 z_CLX3 (by decide) z_wX3_32 rfl rfl rfl (by decide) (by decide) (by decide) (by decide +kernel) (by decide +kernel) z_h0 (z_clr (by decide +kernel) (by decide +kernel)) ?_
  refine V_aload_n (v := vR 258) (pc := 88) dX3_init_88 rfl ?_ (Or.inl rfl)
  refine P_new (k := 271) (mk := 1) (bc2 := 24) (bs2 := 2422) (n2 := 271) (pc := 89) dX3_init_89 z_CLX7 z_wX3_9 z_inX7 z_itX7 (by decide +kernel) rfl rfl (by decide +kernel) (by decide) (hz.mono (m := 270) (Nat.le_of_ble_eq_true rfl)) (z_mk (by decide) (by decide +kernel)) ?_
  refine V_dup (a := vR 271) (pc := 92) dX3_init_92 ?_ (by decide)
  refine V_sipush (x := 200) (pc := 93) dX3_init_93 (by decide) ?_
  refine P_callI (as := [vI 200]) (st := [vR 271, vR 258]) (k := 271) (bc2 := 23) (bs2 := 2222) (pc := 96) dX3_init_96 z_mX7_init z_iX7_init z_wX3_11 (i_X7 (σ := σ) (P := [(258, 61503), (1, 3072)]) (n := 271) (n2 := 272) (sl := 200) hst (hz.mono (m := 271) (Nat.le_of_ble_eq_true rfl)) (by decide) (by decide) (by decide +kernel) rfl (by decide +kernel) (by decide +kernel) (by decide) rfl (by decide +kernel) (by decide +kernel)) rfl (by decide) ⟨(Nat.le_of_ble_eq_true rfl), (Nat.le_of_ble_eq_true rfl), (by decide +kernel), (by decide +kernel), (Nat.le_of_ble_eq_true rfl)⟩ ?_
  refine P_putR (j := 12) (m' := 57407) (P' := [(258, 57407), (1, 3072)]) (pc := 99) dX3_init_99 z_CLX3 (by decide) z_wX3_35 rfl rfl rfl (by decide) (by decide) (by decide) (by decide +kernel) (by decide +kernel) z_h0 (z_clr (by decide +kernel) (by decide +kernel)) ?_
  refine V_aload_n (v := vR 258) (pc := 102) dX3_init_102 rfl ?_ (Or.inl rfl)
  refine P_new (k := 273) (mk := 1) (bc2 := 22) (bs2 := 2221) (n2 := 273) (pc := 103) dX3_init_103 z_CLX7 z_wX3_9 z_inX7 z_itX7 (by decide +kernel) rfl rfl (by decide +kernel) (by decide) (hz.mono (m := 272) (Nat.le_of_ble_eq_true rfl)) (z_mk (by decide) (by decide +kernel)) ?_
  refine V_dup (a := vR 273) (pc := 106) dX3_init_106 ?_ (by decide)
  refine V_sipush (x := 200) (pc := 107) dX3_init_107 (by decide) ?_
  refine P_callI (as := [vI 200]) (st := [vR 273, vR 258]) (k := 273) (bc2 := 21) (bs2 := 2021) (pc := 110) dX3_init_110 z_mX7_init z_iX7_init z_wX3_11 (i_X7 (σ := σ) (P := [(258, 57407), (1, 3072)]) (n := 273) (n2 := 274) (sl := 200) hst (hz.mono (m := 273) (Nat.le_of_ble_eq_true rfl)) (by decide) (by decide) (by decide +kernel) rfl (by decide +kernel) (by decide +kernel) (by decide) rfl (by decide +kernel) (by decide +kernel)) rfl (by decide) ⟨(Nat.le_of_ble_eq_true rfl), (Nat.le_of_ble_eq_true rfl), (by decide +kernel), (by decide +kernel), (Nat.le_of_ble_eq_true rfl)⟩ ?_
  refine P_putR (j := 13) (m' := 49215) (P' := [(258, 49215), (1, 3072)]) (pc := 113) dX3_init_113 z_CLX3 (by decide) z_wX3_38 rfl rfl rfl (by decide) (by decide) (by decide) (by decide +kernel) (by decide +kernel) z_h0 (z_clr (by decide +kernel) (by decide +kernel)) ?_
  refine V_aload_n (v := vR 258) (pc := 116) dX3_init_116 rfl ?_ (Or.inl rfl)
  refine P_new (k := 275) (mk := 1) (bc2 := 20) (bs2 := 2020) (n2 := 275) (pc := 117) dX3_init_117 z_CLX7 z_wX3_9 z_inX7 z_itX7 (by decide +kernel) rfl rfl (by decide +kernel) (by decide) (hz.mono (m := 274) (Nat.le_of_ble_eq_true rfl)) (z_mk (by decide) (by decide +kernel)) ?_
  refine V_dup (a := vR 275) (pc := 120) dX3_init_120 ?_ (by decide)
  refine V_sipush (x := 200) (pc := 121) dX3_init_121 (by decide) ?_
  refine P_callI (as := [vI 200]) (st := [vR 275, vR 258]) (k := 275) (bc2 := 19) (bs2 := 1820) (pc := 124) dX3_init_124 z_mX7_init z_iX7_init z_wX3_11 (i_X7 (σ := σ) (P := [(258, 49215), (1, 3072)]) (n := 275) (n2 := 276) (sl := 200) hst (hz.mono (m := 275) (Nat.le_of_ble_eq_true rfl)) (by decide) (by decide) (by decide +kernel) rfl (by decide +kernel) (by decide +kernel) (by decide) rfl (by decide +kernel) (by decide +kernel)) rfl (by decide) ⟨(Nat.le_of_ble_eq_true rfl), (Nat.le_of_ble_eq_true rfl), (by decide +kernel), (by decide +kernel), (Nat.le_of_ble_eq_true rfl)⟩ ?_
  refine P_putR (j := 14) (m' := 32831) (P' := [(258, 32831), (1, 3072)]) (pc := 127) dX3_init_127 z_CLX3 (by decide) z_wX3_41 rfl rfl rfl (by decide) (by decide) (by decide) (by decide +kernel) (by decide +kernel) z_h0 (z_clr (by decide +kernel) (by decide +kernel)) ?_
  refine V_aload_n (v := vR 258) (pc := 130) dX3_init_130 rfl ?_ (Or.inl rfl)
  refine P_new (k := 277) (mk := 1) (bc2 := 18) (bs2 := 1819) (n2 := 277) (pc := 131) dX3_init_131 z_CLX7 z_wX3_9 z_inX7 z_itX7 (by decide +kernel) rfl rfl (by decide +kernel) (by decide) (hz.mono (m := 276) (Nat.le_of_ble_eq_true rfl)) (z_mk (by decide) (by decide +kernel)) ?_
  refine V_dup (a := vR 277) (pc := 134) dX3_init_134 ?_ (by decide)
  refine V_sipush (x := 201) (pc := 135) dX3_init_135 (by decide) ?_
  refine P_callI (as := [vI 201]) (st := [vR 277, vR 258]) (k := 277) (bc2 := 17) (bs2 := 1618) (pc := 138) dX3_init_138 z_mX7_init z_iX7_init z_wX3_11 (i_X7 (σ := σ) (P := [(258, 32831), (1, 3072)]) (n := 277) (n2 := 278) (sl := 201) hst (hz.mono (m := 277) (Nat.le_of_ble_eq_true rfl)) (by decide) (by decide) (by decide +kernel) rfl (by decide +kernel) (by decide +kernel) (by decide) rfl (by decide +kernel) (by decide +kernel)) rfl (by decide) ⟨(Nat.le_of_ble_eq_true rfl), (Nat.le_of_ble_eq_true rfl), (by decide +kernel), (by decide +kernel), (Nat.le_of_ble_eq_true rfl)⟩ ?_
  refine P_putR (j := 15) (m' := 63) (P' := [(258, 63), (1, 3072)]) (pc := 141) dX3_init_141 z_CLX3 (by decide) z_wX3_44 rfl rfl rfl (by decide) (by decide) (by decide) (by decide +kernel) (by decide +kernel) z_h0 (z_clr (by decide +kernel) (by decide +kernel)) ?_
  refine V_aload_n (v := vR 258) (pc := 144) dX3_init_144 rfl ?_ (Or.inl rfl)
  refine V_aload_n (v := vR 6) (pc := 145) dX3_init_145 rfl ?_ (Or.inl rfl)
  refine P_putR (j := 0) (m' := 62) (P' := [(258, 62), (1, 3072)]) (pc := 146) dX3_init_146 z_CLX3 (by decide) z_wX3_47 rfl rfl rfl (by decide) (by decide) (by decide) (by decide +kernel) (by decide +kernel) z_h0 (z_clr (by decide +kernel) (by decide +kernel)) ?_
  refine V_aload_n (v := vR 258) (pc := 149) dX3_init_149 rfl ?_ (Or.inl rfl)
  refine V_aload_n (v := vR 191) (pc := 150) dX3_init_150 rfl ?_ (Or.inl rfl)
  refine P_putR (j := 1) (m' := 60) (P' := [(258, 60), (1, 3072)]) (pc := 151) dX3_init_151 z_CLX3 (by decide) z_wX3_51 rfl rfl rfl (by decide) (by decide) (by decide) (by decide +kernel) (by decide +kernel) z_h0 (z_clr (by decide +kernel) (by decide +kernel)) ?_
  refine V_aload_n (v := vR 258) (pc := 154) dX3_init_154 rfl ?_ (Or.inl rfl)
  refine V_aload_n (v := vR 220) (pc := 155) dX3_init_155 rfl ?_ (Or.inl rfl)
  refine P_putR (j := 2) (m' := 56) (P' := [(258, 56), (1, 3072)]) (pc := 156) dX3_init_156 z_CLX3 (by decide) z_wX3_55 rfl rfl rfl (by decide) (by decide) (by decide) (by decide +kernel) (by decide +kernel) z_h0 (z_clr (by decide +kernel) (by decide +kernel)) ?_
  refine V_aload_n (v := vR 258) (pc := 159) dX3_init_159 rfl ?_ (Or.inl rfl)
  refine V_aload (v := vR 240) (pc := 160) dX3_init_160 rfl ?_ (Or.inl rfl)
  refine P_putR (j := 3) (m' := 48) (P' := [(258, 48), (1, 3072)]) (pc := 162) dX3_init_162 z_CLX3 (by decide) z_wX3_59 rfl rfl rfl (by decide) (by decide) (by decide) (by decide +kernel) (by decide +kernel) z_h0 (z_clr (by decide +kernel) (by decide +kernel)) ?_
  refine V_aload_n (v := vR 258) (pc := 165) dX3_init_165 rfl ?_ (Or.inl rfl)
  refine V_aload (v := vR 2) (pc := 166) dX3_init_166 rfl ?_ (Or.inl rfl)
  refine P_putR (j := 4) (m' := 32) (P' := [(258, 32), (1, 3072)]) (pc := 168) dX3_init_168 z_CLX3 (by decide) z_wX3_63 rfl rfl rfl (by decide) (by decide) (by decide) (by decide +kernel) (by decide +kernel) z_h0 (z_clr (by decide +kernel) (by decide +kernel)) ?_
  refine V_aload_n (v := vR 258) (pc := 171) dX3_init_171 rfl ?_ (Or.inl rfl)
  refine P_new (k := 279) (mk := 511) (bc2 := 16) (bs2 := 1608) (n2 := 279) (pc := 172) dX3_init_172 z_CLX0 z_wX3_66 z_inX0 z_itX0 (by decide +kernel) rfl rfl (by decide +kernel) (by decide) (hz.mono (m := 278) (Nat.le_of_ble_eq_true rfl)) (z_mk (by decide) (by decide +kernel)) ?_
  refine V_dup (a := vR 279) (pc := 175) dX3_init_175 ?_ (by decide)
  refine V_aload_n (v := vR 191) (pc := 176) dX3_init_176 rfl ?_ (Or.inl rfl)
  refine P_callI (as := [vR 191]) (st := [vR 279, vR 258]) (k := 279) (bc2 := 0) (bs2 := 0) (pc := 177) dX3_init_177 z_mX0_init z_iX0_init z_wX3_68 (i_X0_279 (σ := σ) hst (hz.mono (m := 279) (Nat.le_of_ble_eq_true rfl))) rfl (by decide) ⟨(Nat.le_of_ble_eq_true rfl), (Nat.le_of_ble_eq_true rfl), (by decide +kernel), (by decide +kernel), (Nat.le_of_ble_eq_true rfl)⟩ ?_
  refine P_putR (j := 5) (m' := 0) (P' := [(258, 0), (1, 3072)]) (pc := 180) dX3_init_180 z_CLX3 (by decide) z_wX3_71 rfl rfl rfl (by decide) (by decide) (by decide) (by decide +kernel) (by decide +kernel) z_h0 (z_clr (by decide +kernel) (by decide +kernel)) ?_
  refine P_pop (by decide +kernel) ?_
  exact P_ret (pc := 183) dX3_init_183 rfl
theorem i_X8_296 {l : Launch} {K : z_K} {σ : z_M} (hst : l.stackTraces = false) (hz : z_zs σ 296) : z_C l K mX8_init 2 35 12 13007 [vR 296, vR 258, vR 191, vR 2] 296 (z_pd [(296, 511), (1, 2048)]) σ (z_IQ 308 (z_pd [(1, 2048)]) σ) := by
  refine P_of (lv := [vR 296, vR 258, vR 191, vR 2]) hst z_mX8_init rfl ?_ (Nat.le_of_ble_eq_true rfl) rfl
  refine V_aload_n (v := vR 296) (pc := 0) dX8_init_0 rfl ?_ (Or.inl rfl)
  refine V_obj (st := []) (pc := 1) dX8_init_1 z_wX8_3 z_obj1 z_obj2 (by decide) (Nat.le_of_ble_eq_true rfl) (Nat.le_of_ble_eq_true rfl) ?_
  refine V_aload_n (v := vR 296) (pc := 4) dX8_init_4 rfl ?_ (Or.inl rfl)
  refine P_new (k := 297) (mk := 1) (bc2 := 11) (bs2 := 13006) (n2 := 297) (pc := 5) dX8_init_5 z_CLX7 z_wX8_9 z_inX7 z_itX7 (by decide +kernel) rfl rfl (by decide +kernel) (by decide) (hz.mono (m := 296) (Nat.le_of_ble_eq_true rfl)) (z_mk (by decide) (by decide +kernel)) ?_
  refine V_dup (a := vR 297) (pc := 8) dX8_init_8 ?_ (by decide)
  refine V_sipush (x := 12000) (pc := 9) dX8_init_9 (by decide) ?_
  refine P_callI (as := [vI 12000]) (st := [vR 297, vR 296]) (k := 297) (bc2 := 10) (bs2 := 1006) (pc := 12) dX8_init_12 z_mX7_init z_iX7_init z_wX8_13 (i_X7 (σ := σ) (P := [(296, 511), (1, 2048)]) (n := 297) (n2 := 298) (sl := 12000) hst (hz.mono (m := 297) (Nat.le_of_ble_eq_true rfl)) (by decide) (by decide) (by decide +kernel) rfl (by decide +kernel) (by decide +kernel) (by decide) rfl (by decide +kernel) (by decide +kernel)) rfl (by decide) ⟨(Nat.le_of_ble_eq_true rfl), (Nat.le_of_ble_eq_true rfl), (by decide +kernel), (by decide +kernel), (Nat.le_of_ble_eq_true rfl)⟩ ?_
  refine P_putR (j := 3) (m' := 503) (P' := [(296, 503), (1, 2048)]) (pc := 15) dX8_init_15 z_CLX8 (by decide) z_wX8_16 rfl rfl rfl (by decide) (by decide) (by decide) (by decide +kernel) (by decide +kernel) z_h0 (z_clr (by decide +kernel) (by decide +kernel)) ?_
  refine V_aload_n (v := vR 296) (pc := 18) dX8_init_18 rfl ?_ (Or.inl rfl)
  refine P_new (k := 299) (mk := 1) (bc2 := 9) (bs2 := 1005) (n2 := 299) (pc := 19) dX8_init_19 z_CLX7 z_wX8_9 z_inX7 z_itX7 (by decide +kernel) rfl rfl (by decide +kernel) (by decide) (hz.mono (m := 298) (Nat.le_of_ble_eq_true rfl)) (z_mk (by decide) (by decide +kernel)) ?_
  refine V_dup (a := vR 299) (pc := 22) dX8_init_22 ?_ (by decide)
  refine V_sipush (x := 200) (pc := 23) dX8_init_23 (by decide) ?_
  refine P_callI (as := [vI 200]) (st := [vR 299, vR 296]) (k := 299) (bc2 := 8) (bs2 := 805) (pc := 26) dX8_init_26 z_mX7_init z_iX7_init z_wX8_13 (i_X7 (σ := σ) (P := [(296, 503), (1, 2048)]) (n := 299) (n2 := 300) (sl := 200) hst (hz.mono (m := 299) (Nat.le_of_ble_eq_true rfl)) (by decide) (by decide) (by decide +kernel) rfl (by decide +kernel) (by decide +kernel) (by decide) rfl (by decide +kernel) (by decide +kernel)) rfl (by decide) ⟨(Nat.le_of_ble_eq_true rfl), (Nat.le_of_ble_eq_true rfl), (by decide +kernel), (by decide +kernel), (Nat.le_of_ble_eq_true rfl)⟩ ?_
  refine P_putR (j := 4) (m' := 487) (P' := [(296, 487), (1, 2048)]) (pc := 29) dX8_init_29 z_CLX8 (by decide) z_wX8_20 rfl rfl rfl (by decide) (by decide) (by decide) (by decide +kernel) (by decide +kernel) z_h0 (z_clr (by decide +kernel) (by decide +kernel)) ?_
  refine V_aload_n (v := vR 296) (pc := 32) dX8_init_32 rfl ?_ (Or.inl rfl)
  refine P_new (k := 301) (mk := 1) (bc2 := 7) (bs2 := 804) (n2 := 301) (pc := 33) dX8_init_33 z_CLX7 z_wX8_9 z_inX7 z_itX7 (by decide +kernel) rfl rfl (by decide +kernel) (by decide) (hz.mono (m := 300) (Nat.le_of_ble_eq_true rfl)) (z_mk (by decide) (by decide +kernel)) ?_
  refine V_dup (a := vR 301) (pc := 36) dX8_init_36 ?_ (by decide)
  refine V_sipush (x := 200) (pc := 37) dX8_init_37 (by decide) ?_
  refine P_callI (as := [vI 200]) (st := [vR 301, vR 296]) (k := 301) (bc2 := 6) (bs2 := 604) (pc := 40) dX8_init_40 z_mX7_init z_iX7_init z_wX8_13 (i_X7 (σ := σ) (P := [(296, 487), (1, 2048)]) (n := 301) (n2 := 302) (sl := 200) hst (hz.mono (m := 301) (Nat.le_of_ble_eq_true rfl)) (by decide) (by decide) (by decide +kernel) rfl (by decide +kernel) (by decide +kernel) (by decide) rfl (by decide +kernel) (by decide +kernel)) rfl (by decide) ⟨(Nat.le_of_ble_eq_true rfl), (Nat.le_of_ble_eq_true rfl), (by decide +kernel), (by decide +kernel), (Nat.le_of_ble_eq_true rfl)⟩ ?_
  refine P_putR (j := 5) (m' := 455) (P' := [(296, 455), (1, 2048)]) (pc := 43) dX8_init_43 z_CLX8 (by decide) z_wX8_23 rfl rfl rfl (by decide) (by decide) (by decide) (by decide +kernel) (by decide +kernel) z_h0 (z_clr (by decide +kernel) (by decide +kernel)) ?_
  refine V_aload_n (v := vR 296) (pc := 46) dX8_init_46 rfl ?_ (Or.inl rfl)
  refine P_new (k := 303) (mk := 1) (bc2 := 5) (bs2 := 603) (n2 := 303) (pc := 47) dX8_init_47 z_CLX7 z_wX8_9 z_inX7 z_itX7 (by decide +kernel) rfl rfl (by decide +kernel) (by decide) (hz.mono (m := 302) (Nat.le_of_ble_eq_true rfl)) (z_mk (by decide) (by decide +kernel)) ?_
  refine V_dup (a := vR 303) (pc := 50) dX8_init_50 ?_ (by decide)
  refine V_sipush (x := 201) (pc := 51) dX8_init_51 (by decide) ?_
  refine P_callI (as := [vI 201]) (st := [vR 303, vR 296]) (k := 303) (bc2 := 4) (bs2 := 402) (pc := 54) dX8_init_54 z_mX7_init z_iX7_init z_wX8_13 (i_X7 (σ := σ) (P := [(296, 455), (1, 2048)]) (n := 303) (n2 := 304) (sl := 201) hst (hz.mono (m := 303) (Nat.le_of_ble_eq_true rfl)) (by decide) (by decide) (by decide +kernel) rfl (by decide +kernel) (by decide +kernel) (by decide) rfl (by decide +kernel) (by decide +kernel)) rfl (by decide) ⟨(Nat.le_of_ble_eq_true rfl), (Nat.le_of_ble_eq_true rfl), (by decide +kernel), (by decide +kernel), (Nat.le_of_ble_eq_true rfl)⟩ ?_
  refine P_putR (j := 6) (m' := 391) (P' := [(296, 391), (1, 2048)]) (pc := 57) dX8_init_57 z_CLX8 (by decide) z_wX8_26 rfl rfl rfl (by decide) (by decide) (by decide) (by decide +kernel) (by decide +kernel) z_h0 (z_clr (by decide +kernel) (by decide +kernel)) ?_
  refine V_aload_n (v := vR 296) (pc := 60) dX8_init_60 rfl ?_ (Or.inl rfl)
  refine P_new (k := 305) (mk := 1) (bc2 := 3) (bs2 := 401) (n2 := 305) (pc := 61) dX8_init_61 z_CLX7 z_wX8_9 z_inX7 z_itX7 (by decide +kernel) rfl rfl (by decide +kernel) (by decide) (hz.mono (m := 304) (Nat.le_of_ble_eq_true rfl)) (z_mk (by decide) (by decide +kernel)) ?_
  refine V_dup (a := vR 305) (pc := 64) dX8_init_64 ?_ (by decide)
  refine V_sipush (x := 200) (pc := 65) dX8_init_65 (by decide) ?_
  refine P_callI (as := [vI 200]) (st := [vR 305, vR 296]) (k := 305) (bc2 := 2) (bs2 := 201) (pc := 68) dX8_init_68 z_mX7_init z_iX7_init z_wX8_13 (i_X7 (σ := σ) (P := [(296, 391), (1, 2048)]) (n := 305) (n2 := 306) (sl := 200) hst (hz.mono (m := 305) (Nat.le_of_ble_eq_true rfl)) (by decide) (by decide) (by decide +kernel) rfl (by decide +kernel) (by decide +kernel) (by decide) rfl (by decide +kernel) (by decide +kernel)) rfl (by decide) ⟨(Nat.le_of_ble_eq_true rfl), (Nat.le_of_ble_eq_true rfl), (by decide +kernel), (by decide +kernel), (Nat.le_of_ble_eq_true rfl)⟩ ?_
  refine P_putR (j := 7) (m' := 263) (P' := [(296, 263), (1, 2048)]) (pc := 71) dX8_init_71 z_CLX8 (by decide) z_wX8_29 rfl rfl rfl (by decide) (by decide) (by decide) (by decide +kernel) (by decide +kernel) z_h0 (z_clr (by decide +kernel) (by decide +kernel)) ?_
  refine V_aload_n (v := vR 296) (pc := 74) dX8_init_74 rfl ?_ (Or.inl rfl)
  refine P_new (k := 307) (mk := 1) (bc2 := 1) (bs2 := 200) (n2 := 307) (pc := 75) dX8_init_75 z_CLX7 z_wX8_9 z_inX7 z_itX7 (by decide +kernel) rfl rfl (by decide +kernel) (by decide) (hz.mono (m := 306) (Nat.le_of_ble_eq_true rfl)) (z_mk (by decide) (by decide +kernel)) ?_
  refine V_dup (a := vR 307) (pc := 78) dX8_init_78 ?_ (by decide)
  refine V_sipush (x := 200) (pc := 79) dX8_init_79 (by decide) ?_
  refine P_callI (as := [vI 200]) (st := [vR 307, vR 296]) (k := 307) (bc2 := 0) (bs2 := 0) (pc := 82) dX8_init_82 z_mX7_init z_iX7_init z_wX8_13 (i_X7 (σ := σ) (P := [(296, 263), (1, 2048)]) (n := 307) (n2 := 308) (sl := 200) hst (hz.mono (m := 307) (Nat.le_of_ble_eq_true rfl)) (by decide) (by decide) (by decide +kernel) rfl (by decide +kernel) (by decide +kernel) (by decide) rfl (by decide +kernel) (by decide +kernel)) rfl (by decide) ⟨(Nat.le_of_ble_eq_true rfl), (Nat.le_of_ble_eq_true rfl), (by decide +kernel), (by decide +kernel), (Nat.le_of_ble_eq_true rfl)⟩ ?_
  refine P_putR (j := 8) (m' := 7) (P' := [(296, 7), (1, 2048)]) (pc := 85) dX8_init_85 z_CLX8 (by decide) z_wX8_32 rfl rfl rfl (by decide) (by decide) (by decide) (by decide +kernel) (by decide +kernel) z_h0 (z_clr (by decide +kernel) (by decide +kernel)) ?_
  refine V_aload_n (v := vR 296) (pc := 88) dX8_init_88 rfl ?_ (Or.inl rfl)
  refine V_aload_n (v := vR 258) (pc := 89) dX8_init_89 rfl ?_ (Or.inl rfl)
  refine P_putR (j := 0) (m' := 6) (P' := [(296, 6), (1, 2048)]) (pc := 90) dX8_init_90 z_CLX8 (by decide) z_wX8_35 rfl rfl rfl (by decide) (by decide) (by decide) (by decide +kernel) (by decide +kernel) z_h0 (z_clr (by decide +kernel) (by decide +kernel)) ?_
  refine V_aload_n (v := vR 296) (pc := 93) dX8_init_93 rfl ?_ (Or.inl rfl)
  refine V_aload_n (v := vR 191) (pc := 94) dX8_init_94 rfl ?_ (Or.inl rfl)
  refine P_putR (j := 1) (m' := 4) (P' := [(296, 4), (1, 2048)]) (pc := 95) dX8_init_95 z_CLX8 (by decide) z_wX8_39 rfl rfl rfl (by decide) (by decide) (by decide) (by decide +kernel) (by decide +kernel) z_h0 (z_clr (by decide +kernel) (by decide +kernel)) ?_
  refine V_aload_n (v := vR 296) (pc := 98) dX8_init_98 rfl ?_ (Or.inl rfl)
  refine V_aload_n (v := vR 2) (pc := 99) dX8_init_99 rfl ?_ (Or.inl rfl)
  refine P_putR (j := 2) (m' := 0) (P' := [(296, 0), (1, 2048)]) (pc := 100) dX8_init_100 z_CLX8 (by decide) z_wX8_43 rfl rfl rfl (by decide) (by decide) (by decide) (by decide +kernel) (by decide +kernel) z_h0 (z_clr (by decide +kernel) (by decide +kernel)) ?_
  refine P_pop (by decide +kernel) ?_
  exact P_ret (pc := 103) dX8_init_103 rfl
theorem i_X11_1 {l : Launch} {K : z_K} {σ : z_M} (hst : l.stackTraces = false) (hz : z_zs σ 1) : z_C l K mX11_init 4 81 307 60194 [vR 1] 1 (z_pd [(1, 4095)]) σ (z_IQ 308 (z_pd []) (z_up (z_up (z_up (z_up (z_up (z_up (z_up (z_up (z_up (z_up σ 1 13 (-1)) 3 0 120) 3 1 2) 3 2 3) 3 3 0) 3 4 0) 3 5 1) 3 6 0) 3 7 0) 3 8 4)) := by
  refine P_of (lv := [vR 1, vU]) hst z_mX11_init rfl ?_ (Nat.le_of_ble_eq_true rfl) rfl
  refine V_aload_n (v := vR 1) (pc := 0) dX11_init_0 rfl ?_ (Or.inl rfl)
  refine V_obj (st := []) (pc := 1) dX11_init_1 z_wX11_1 z_obj1 z_obj2 (by decide) (Nat.le_of_ble_eq_true rfl) (Nat.le_of_ble_eq_true rfl) ?_
  refine V_aload_n (v := vR 1) (pc := 4) dX11_init_4 rfl ?_ (Or.inl rfl)
  refine P_new (k := 2) (mk := 1) (bc2 := 306) (bs2 := 60193) (n2 := 2) (pc := 5) dX11_init_5 z_CLX7 z_wX11_7 z_inX7 z_itX7 (by decide +kernel) rfl rfl (by decide +kernel) (by decide) (hz.mono (m := 1) (Nat.le_of_ble_eq_true rfl)) (z_mk (by decide) (by decide +kernel)) ?_
  refine V_dup (a := vR 2) (pc := 8) dX11_init_8 ?_ (by decide)
  refine V_gets (i := 2) (pc := 9) dX11_init_9 (by decide) z_wX11_9 ?_
  refine V_tlen (i := 2) (pc := 12) dX11_init_12 (by decide) ?_
  refine P_callI (as := [vI 9]) (st := [vR 2, vR 1]) (k := 2) (bc2 := 305) (bs2 := 60184) (pc := 13) dX11_init_13 z_mX7_init z_iX7_init z_wX11_15 (i_X7 (σ := σ) (P := [(1, 4095)]) (n := 2) (n2 := 3) (sl := 9) hst (hz.mono (m := 2) (Nat.le_of_ble_eq_true rfl)) (by decide) (by decide) (by decide +kernel) rfl (by decide +kernel) (by decide +kernel) (by decide) rfl (by decide +kernel) (by decide +kernel)) rfl (by decide) ⟨(Nat.le_of_ble_eq_true rfl), (Nat.le_of_ble_eq_true rfl), (by decide +kernel), (by decide +kernel), (Nat.le_of_ble_eq_true rfl)⟩ ?_
  refine P_putR (j := 0) (m' := 4094) (P' := [(1, 4094)]) (pc := 16) dX11_init_16 z_CLX11 (by decide) z_wX11_18 rfl rfl rfl (by decide) (by decide) (by decide) (by decide +kernel) (by decide +kernel) z_h0 (z_clr (by decide +kernel) (by decide +kernel)) ?_
  refine V_aload_n (v := vR 1) (pc := 19) dX11_init_19 rfl ?_ (Or.inl rfl)
  refine P_new (k := 4) (mk := 1) (bc2 := 304) (bs2 := 60183) (n2 := 4) (pc := 20) dX11_init_20 z_CLX7 z_wX11_7 z_inX7 z_itX7 (by decide +kernel) rfl rfl (by decide +kernel) (by decide) (hz.mono (m := 3) (Nat.le_of_ble_eq_true rfl)) (z_mk (by decide) (by decide +kernel)) ?_
  refine V_dup (a := vR 4) (pc := 23) dX11_init_23 ?_ (by decide)
  refine V_sipush (x := 300) (pc := 24) dX11_init_24 (by decide) ?_
  refine P_callI (as := [vI 300]) (st := [vR 4, vR 1]) (k := 4) (bc2 := 303) (bs2 := 59883) (pc := 27) dX11_init_27 z_mX7_init z_iX7_init z_wX11_15 (i_X7 (σ := σ) (P := [(1, 4094)]) (n := 4) (n2 := 5) (sl := 300) hst (hz.mono (m := 4) (Nat.le_of_ble_eq_true rfl)) (by decide) (by decide) (by decide +kernel) rfl (by decide +kernel) (by decide +kernel) (by decide) rfl (by decide +kernel) (by decide +kernel)) rfl (by decide) ⟨(Nat.le_of_ble_eq_true rfl), (Nat.le_of_ble_eq_true rfl), (by decide +kernel), (by decide +kernel), (Nat.le_of_ble_eq_true rfl)⟩ ?_
  refine P_putR (j := 1) (m' := 4092) (P' := [(1, 4092)]) (pc := 30) dX11_init_30 z_CLX11 (by decide) z_wX11_22 rfl rfl rfl (by decide) (by decide) (by decide) (by decide +kernel) (by decide +kernel) z_h0 (z_clr (by decide +kernel) (by decide +kernel)) ?_
  refine V_aload_n (v := vR 1) (pc := 33) dX11_init_33 rfl ?_ (Or.inl rfl)
  refine P_new (k := 6) (mk := 63) (bc2 := 302) (bs2 := 59874) (n2 := 6) (pc := 34) dX11_init_34 z_CLX9 z_wX11_25 z_inX9 z_itX9 (by decide +kernel) rfl rfl (by decide +kernel) (by decide) (hz.mono (m := 5) (Nat.le_of_ble_eq_true rfl)) (z_mk (by decide) (by decide +kernel)) ?_
  refine V_dup (a := vR 6) (pc := 37) dX11_init_37 ?_ (by decide)
  refine P_callIN (as := []) (st := [vR 6, vR 1]) (k := 6) (bc2 := 290) (bs2 := 58668) (pc := 38) dX11_init_38 z_mX9_init z_iX9_init ⟨rfl, (Or.inl ⟨rfl, rfl⟩)⟩ (i_X9_6 (σ := σ) hst (hz.mono (m := 6) (Nat.le_of_ble_eq_true rfl))) rfl (by decide) ⟨(Nat.le_of_ble_eq_true rfl), (Nat.le_of_ble_eq_true rfl), (by decide +kernel), (by decide +kernel), (Nat.le_of_ble_eq_true rfl)⟩ ?_
  refine P_putR (j := 2) (m' := 4088) (P' := [(1, 4088)]) (pc := 41) dX11_init_41 z_CLX11 (by decide) z_wX11_28 rfl rfl rfl (by decide) (by decide) (by decide) (by decide +kernel) (by decide +kernel) z_h0 (z_clr (by decide +kernel) (by decide +kernel)) ?_
  refine V_aload_n (v := vR 1) (pc := 44) dX11_init_44 rfl ?_ (Or.inl rfl)
  refine P_new (k := 19) (mk := 63) (bc2 := 289) (bs2 := 58659) (n2 := 19) (pc := 45) dX11_init_45 z_CLX9 z_wX11_25 z_inX9 z_itX9 (by decide +kernel) rfl rfl (by decide +kernel) (by decide) (hz.mono (m := 18) (Nat.le_of_ble_eq_true rfl)) (z_mk (by decide) (by decide +kernel)) ?_
  refine V_dup (a := vR 19) (pc := 48) dX11_init_48 ?_ (by decide)
  refine P_callIN (as := []) (st := [vR 19, vR 1]) (k := 19) (bc2 := 277) (bs2 := 57453) (pc := 49) dX11_init_49 z_mX9_init z_iX9_init ⟨rfl, (Or.inl ⟨rfl, rfl⟩)⟩ (i_X9_19 (σ := σ) hst (hz.mono (m := 19) (Nat.le_of_ble_eq_true rfl))) rfl (by decide) ⟨(Nat.le_of_ble_eq_true rfl), (Nat.le_of_ble_eq_true rfl), (by decide +kernel), (by decide +kernel), (Nat.le_of_ble_eq_true rfl)⟩ ?_
  refine P_putR (j := 3) (m' := 4080) (P' := [(1, 4080)]) (pc := 52) dX11_init_52 z_CLX11 (by decide) z_wX11_32 rfl rfl rfl (by decide) (by decide) (by decide) (by decide +kernel) (by decide +kernel) z_h0 (z_clr (by decide +kernel) (by decide +kernel)) ?_
  refine V_aload_n (v := vR 1) (pc := 55) dX11_init_55 rfl ?_ (Or.inl rfl)
  refine P_new (k := 32) (mk := 1) (bc2 := 276) (bs2 := 57445) (n2 := 32) (pc := 56) dX11_init_56 z_CLX6 z_wX11_35 z_inX6 z_itX6 (by decide +kernel) rfl rfl (by decide +kernel) (by decide) (hz.mono (m := 31) (Nat.le_of_ble_eq_true rfl)) (z_mk (by decide) (by decide +kernel)) ?_
  refine V_dup (a := vR 32) (pc := 59) dX11_init_59 ?_ (by decide)
  refine V_aload_n (v := vR 1) (pc := 60) dX11_init_60 rfl ?_ (Or.inl rfl)
  refine V_getR (r := 19) (j := 3) (pc := 61) dX11_init_61 z_CLX11 (by decide) z_wX11_32 (by decide) (by decide) (by decide) (by decide +kernel) (by decide +kernel) ?_
  refine P_callI (as := [vR 19]) (st := [vR 32, vR 1]) (k := 32) (bc2 := 276) (bs2 := 57445) (pc := 64) dX11_init_64 z_mX6_init z_iX6_init z_wX11_37 (i_X6_32 (σ := σ) hst (hz.mono (m := 32) (Nat.le_of_ble_eq_true rfl))) rfl (by decide) ⟨(Nat.le_of_ble_eq_true rfl), (Nat.le_of_ble_eq_true rfl), (by decide +kernel), (by decide +kernel), (Nat.le_of_ble_eq_true rfl)⟩ ?_
  refine P_putR (j := 4) (m' := 4064) (P' := [(1, 4064)]) (pc := 67) dX11_init_67 z_CLX11 (by decide) z_wX11_40 rfl rfl rfl (by decide) (by decide) (by decide) (by decide +kernel) (by decide +kernel) z_h0 (z_clr (by decide +kernel) (by decide +kernel)) ?_
  refine V_aload_n (v := vR 1) (pc := 70) dX11_init_70 rfl ?_ (Or.inl rfl)
  refine P_new (k := 33) (mk := 1) (bc2 := 275) (bs2 := 57442) (n2 := 33) (pc := 71) dX11_init_71 z_CLX2 z_wX11_44 z_inX2 z_itX2 (by decide +kernel) rfl rfl (by decide +kernel) (by decide) (hz.mono (m := 32) (Nat.le_of_ble_eq_true rfl)) (z_mk (by decide) (by decide +kernel)) ?_
  refine V_dup (a := vR 33) (pc := 74) dX11_init_74 ?_ (by decide)
  refine P_callI (as := []) (st := [vR 33, vR 1]) (k := 33) (bc2 := 118) (bs2 := 42850) (pc := 75) dX11_init_75 z_mX2_init z_iX2_init z_wX11_46 (i_X2_33 (σ := σ) hst (hz.mono (m := 33) (Nat.le_of_ble_eq_true rfl))) rfl (by decide) ⟨(Nat.le_of_ble_eq_true rfl), (Nat.le_of_ble_eq_true rfl), (by decide +kernel), (by decide +kernel), (Nat.le_of_ble_eq_true rfl)⟩ ?_
  refine P_putR (j := 5) (m' := 4032) (P' := [(1, 4032)]) (pc := 78) dX11_init_78 z_CLX11 (by decide) z_wX11_47 rfl rfl rfl (by decide) (by decide) (by decide) (by decide +kernel) (by decide +kernel) z_h0 (z_clr (by decide +kernel) (by decide +kernel)) ?_
  refine V_aload_n (v := vR 1) (pc := 81) dX11_init_81 rfl ?_ (Or.inl rfl)
  refine P_new (k := 191) (mk := 65535) (bc2 := 117) (bs2 := 42831) (n2 := 191) (pc := 82) dX11_init_82 z_CLX10 z_wX11_51 z_inX10 z_itX10 (by decide +kernel) rfl rfl (by decide +kernel) (by decide) (hz.mono (m := 190) (Nat.le_of_ble_eq_true rfl)) (z_mk (by decide) (by decide +kernel)) ?_
  refine V_dup (a := vR 191) (pc := 85) dX11_init_85 ?_ (by decide)
  refine V_aload_n (v := vR 1) (pc := 86) dX11_init_86 rfl ?_ (Or.inl rfl)
  refine V_getR (r := 6) (j := 2) (pc := 87) dX11_init_87 z_CLX11 (by decide) z_wX11_28 (by decide) (by decide) (by decide) (by decide +kernel) (by decide +kernel) ?_
  refine V_aload_n (v := vR 1) (pc := 90) dX11_init_90 rfl ?_ (Or.inl rfl)
  refine V_getR (r := 2) (j := 0) (pc := 91) dX11_init_91 z_CLX11 (by decide) z_wX11_18 (by decide) (by decide) (by decide) (by decide +kernel) (by decide +kernel) ?_
  refine P_callI (as := [vR 6, vR 2]) (st := [vR 191, vR 1]) (k := 191) (bc2 := 89) (bs2 := 40015) (pc := 94) dX11_init_94 z_mX10_init z_iX10_init z_wX11_53 (i_X10_191 (σ := σ) hst (hz.mono (m := 191) (Nat.le_of_ble_eq_true rfl))) rfl (by decide) ⟨(Nat.le_of_ble_eq_true rfl), (Nat.le_of_ble_eq_true rfl), (by decide +kernel), (by decide +kernel), (Nat.le_of_ble_eq_true rfl)⟩ ?_
  refine P_putR (j := 6) (m' := 3968) (P' := [(1, 3968)]) (pc := 97) dX11_init_97 z_CLX11 (by decide) z_wX11_56 rfl rfl rfl (by decide) (by decide) (by decide) (by decide +kernel) (by decide +kernel) z_h0 (z_clr (by decide +kernel) (by decide +kernel)) ?_
  refine V_aload_n (v := vR 1) (pc := 100) dX11_init_100 rfl ?_ (Or.inl rfl)
  refine P_new (k := 220) (mk := 15) (bc2 := 88) (bs2 := 40009) (n2 := 220) (pc := 101) dX11_init_101 z_CLX5 z_wX11_60 z_inX5 z_itX5 (by decide +kernel) rfl rfl (by decide +kernel) (by decide) (hz.mono (m := 219) (Nat.le_of_ble_eq_true rfl)) (z_mk (by decide) (by decide +kernel)) ?_
  refine V_dup (a := vR 220) (pc := 104) dX11_init_104 ?_ (by decide)
  refine V_aload_n (v := vR 1) (pc := 105) dX11_init_105 rfl ?_ (Or.inl rfl)
  refine V_getR (r := 191) (j := 6) (pc := 106) dX11_init_106 z_CLX11 (by decide) z_wX11_56 (by decide) (by decide) (by decide) (by decide +kernel) (by decide +kernel) ?_
  refine V_aload_n (v := vR 1) (pc := 109) dX11_init_109 rfl ?_ (Or.inl rfl)
  refine V_getR (r := 2) (j := 0) (pc := 110) dX11_init_110 z_CLX11 (by decide) z_wX11_18 (by decide) (by decide) (by decide) (by decide +kernel) (by decide +kernel) ?_
  refine P_callI (as := [vR 191, vR 2]) (st := [vR 220, vR 1]) (k := 220) (bc2 := 69) (bs2 := 18290) (pc := 113) dX11_init_113 z_mX5_init z_iX5_init z_wX11_62 (i_X5_220 (σ := σ) hst (hz.mono (m := 220) (Nat.le_of_ble_eq_true rfl))) rfl (by decide) ⟨(Nat.le_of_ble_eq_true rfl), (Nat.le_of_ble_eq_true rfl), (by decide +kernel), (by decide +kernel), (Nat.le_of_ble_eq_true rfl)⟩ ?_
  refine P_putR (j := 7) (m' := 3840) (P' := [(1, 3840)]) (pc := 116) dX11_init_116 z_CLX11 (by decide) z_wX11_65 rfl rfl rfl (by decide) (by decide) (by decide) (by decide +kernel) (by decide +kernel) z_h0 (z_clr (by decide +kernel) (by decide +kernel)) ?_
  refine V_aload_n (v := vR 1) (pc := 119) dX11_init_119 rfl ?_ (Or.inl rfl)
  refine P_new (k := 240) (mk := 63) (bc2 := 68) (bs2 := 18283) (n2 := 240) (pc := 120) dX11_init_120 z_CLX1 z_wX11_69 z_inX1 z_itX1 (by decide +kernel) rfl rfl (by decide +kernel) (by decide) (hz.mono (m := 239) (Nat.le_of_ble_eq_true rfl)) (z_mk (by decide) (by decide +kernel)) ?_
  refine V_dup (a := vR 240) (pc := 123) dX11_init_123 ?_ (by decide)
  refine V_aload_n (v := vR 1) (pc := 124) dX11_init_124 rfl ?_ (Or.inl rfl)
  refine V_getR (r := 191) (j := 6) (pc := 125) dX11_init_125 z_CLX11 (by decide) z_wX11_56 (by decide) (by decide) (by decide) (by decide +kernel) (by decide +kernel) ?_
  refine V_aload_n (v := vR 1) (pc := 128) dX11_init_128 rfl ?_ (Or.inl rfl)
  refine V_getR (r := 220) (j := 7) (pc := 129) dX11_init_129 z_CLX11 (by decide) z_wX11_65 (by decide) (by decide) (by decide) (by decide +kernel) (by decide +kernel) ?_
  refine P_callI (as := [vR 191, vR 220]) (st := [vR 240, vR 1]) (k := 240) (bc2 := 60) (bs2 := 17476) (pc := 132) dX11_init_132 z_mX1_init z_iX1_init z_wX11_71 (i_X1_240 (σ := σ) hst (hz.mono (m := 240) (Nat.le_of_ble_eq_true rfl))) rfl (by decide) ⟨(Nat.le_of_ble_eq_true rfl), (Nat.le_of_ble_eq_true rfl), (by decide +kernel), (by decide +kernel), (Nat.le_of_ble_eq_true rfl)⟩ ?_
  refine P_putR (j := 8) (m' := 3584) (P' := [(1, 3584)]) (pc := 135) dX11_init_135 z_CLX11 (by decide) z_wX11_74 rfl rfl rfl (by decide) (by decide) (by decide) (by decide +kernel) (by decide +kernel) z_h0 (z_clr (by decide +kernel) (by decide +kernel)) ?_
  refine V_aload_n (v := vR 1) (pc := 138) dX11_init_138 rfl ?_ (Or.inl rfl)
  refine P_new (k := 249) (mk := 63) (bc2 := 59) (bs2 := 17469) (n2 := 249) (pc := 139) dX11_init_139 z_CLX1 z_wX11_69 z_inX1 z_itX1 (by decide +kernel) rfl rfl (by decide +kernel) (by decide) (hz.mono (m := 248) (Nat.le_of_ble_eq_true rfl)) (z_mk (by decide) (by decide +kernel)) ?_
  refine V_dup (a := vR 249) (pc := 142) dX11_init_142 ?_ (by decide)
  refine V_aload_n (v := vR 1) (pc := 143) dX11_init_143 rfl ?_ (Or.inl rfl)
  refine V_getR (r := 191) (j := 6) (pc := 144) dX11_init_144 z_CLX11 (by decide) z_wX11_56 (by decide) (by decide) (by decide) (by decide +kernel) (by decide +kernel) ?_
  refine V_aload_n (v := vR 1) (pc := 147) dX11_init_147 rfl ?_ (Or.inl rfl)
  refine V_getR (r := 220) (j := 7) (pc := 148) dX11_init_148 z_CLX11 (by decide) z_wX11_65 (by decide) (by decide) (by decide) (by decide +kernel) (by decide +kernel) ?_
  refine P_callI (as := [vR 191, vR 220]) (st := [vR 249, vR 1]) (k := 249) (bc2 := 51) (bs2 := 16662) (pc := 151) dX11_init_151 z_mX1_init z_iX1_init z_wX11_71 (i_X1_249 (σ := σ) hst (hz.mono (m := 249) (Nat.le_of_ble_eq_true rfl))) rfl (by decide) ⟨(Nat.le_of_ble_eq_true rfl), (Nat.le_of_ble_eq_true rfl), (by decide +kernel), (by decide +kernel), (Nat.le_of_ble_eq_true rfl)⟩ ?_
  refine P_putR (j := 9) (m' := 3072) (P' := [(1, 3072)]) (pc := 154) dX11_init_154 z_CLX11 (by decide) z_wX11_78 rfl rfl rfl (by decide) (by decide) (by decide) (by decide +kernel) (by decide +kernel) z_h0 (z_clr (by decide +kernel) (by decide +kernel)) ?_
  refine V_aload_n (v := vR 1) (pc := 157) dX11_init_157 rfl ?_ (Or.inl rfl)
  refine P_new (k := 258) (mk := 65535) (bc2 := 50) (bs2 := 16646) (n2 := 258) (pc := 158) dX11_init_158 z_CLX3 z_wX11_81 z_inX3 z_itX3 (by decide +kernel) rfl rfl (by decide +kernel) (by decide) (hz.mono (m := 257) (Nat.le_of_ble_eq_true rfl)) (z_mk (by decide) (by decide +kernel)) ?_
  refine V_dup (a := vR 258) (pc := 161) dX11_init_161 ?_ (by decide)
  refine V_aload_n (v := vR 1) (pc := 162) dX11_init_162 rfl ?_ (Or.inl rfl)
  refine V_getR (r := 6) (j := 2) (pc := 163) dX11_init_163 z_CLX11 (by decide) z_wX11_28 (by decide) (by decide) (by decide) (by decide +kernel) (by decide +kernel) ?_
  refine V_aload_n (v := vR 1) (pc := 166) dX11_init_166 rfl ?_ (Or.inl rfl)
  refine V_getR (r := 191) (j := 6) (pc := 167) dX11_init_167 z_CLX11 (by decide) z_wX11_56 (by decide) (by decide) (by decide) (by decide +kernel) (by decide +kernel) ?_
  refine V_aload_n (v := vR 1) (pc := 170) dX11_init_170 rfl ?_ (Or.inl rfl)
  refine V_getR (r := 220) (j := 7) (pc := 171) dX11_init_171 z_CLX11 (by decide) z_wX11_65 (by decide) (by decide) (by decide) (by decide +kernel) (by decide +kernel) ?_
  refine V_aload_n (v := vR 1) (pc := 174) dX11_init_174 rfl ?_ (Or.inl rfl)
  refine V_getR (r := 240) (j := 8) (pc := 175) dX11_init_175 z_CLX11 (by decide) z_wX11_74 (by decide) (by decide) (by decide) (by decide +kernel) (by decide +kernel) ?_
  refine V_aload_n (v := vR 1) (pc := 178) dX11_init_178 rfl ?_ (Or.inl rfl)
  refine V_getR (r := 2) (j := 0) (pc := 179) dX11_init_179 z_CLX11 (by decide) z_wX11_18 (by decide) (by decide) (by decide) (by decide +kernel) (by decide +kernel) ?_
  refine P_callI (as := [vR 6, vR 191, vR 220, vR 240, vR 2]) (st := [vR 258, vR 1]) (k := 258) (bc2 := 13) (bs2 := 13017) (pc := 182) dX11_init_182 z_mX3_init z_iX3_init z_wX11_83 (i_X3_258 (σ := σ) hst (hz.mono (m := 258) (Nat.le_of_ble_eq_true rfl))) rfl (by decide) ⟨(Nat.le_of_ble_eq_true rfl), (Nat.le_of_ble_eq_true rfl), (by decide +kernel), (by decide +kernel), (Nat.le_of_ble_eq_true rfl)⟩ ?_
  refine P_putR (j := 10) (m' := 2048) (P' := [(1, 2048)]) (pc := 185) dX11_init_185 z_CLX11 (by decide) z_wX11_86 rfl rfl rfl (by decide) (by decide) (by decide) (by decide +kernel) (by decide +kernel) z_h0 (z_clr (by decide +kernel) (by decide +kernel)) ?_
  refine V_aload_n (v := vR 1) (pc := 188) dX11_init_188 rfl ?_ (Or.inl rfl)
  refine P_new (k := 296) (mk := 511) (bc2 := 12) (bs2 := 13007) (n2 := 296) (pc := 189) dX11_init_189 z_CLX8 z_wX11_90 z_inX8 z_itX8 (by decide +kernel) rfl rfl (by decide +kernel) (by decide) (hz.mono (m := 295) (Nat.le_of_ble_eq_true rfl)) (z_mk (by decide) (by decide +kernel)) ?_
  refine V_dup (a := vR 296) (pc := 192) dX11_init_192 ?_ (by decide)
  refine V_aload_n (v := vR 1) (pc := 193) dX11_init_193 rfl ?_ (Or.inl rfl)
  refine V_getR (r := 258) (j := 10) (pc := 194) dX11_init_194 z_CLX11 (by decide) z_wX11_86 (by decide) (by decide) (by decide) (by decide +kernel) (by decide +kernel) ?_
  refine V_aload_n (v := vR 1) (pc := 197) dX11_init_197 rfl ?_ (Or.inl rfl)
  refine V_getR (r := 191) (j := 6) (pc := 198) dX11_init_198 z_CLX11 (by decide) z_wX11_56 (by decide) (by decide) (by decide) (by decide +kernel) (by decide +kernel) ?_
  refine V_aload_n (v := vR 1) (pc := 201) dX11_init_201 rfl ?_ (Or.inl rfl)
  refine V_getR (r := 2) (j := 0) (pc := 202) dX11_init_202 z_CLX11 (by decide) z_wX11_18 (by decide) (by decide) (by decide) (by decide +kernel) (by decide +kernel) ?_
  refine P_callI (as := [vR 258, vR 191, vR 2]) (st := [vR 296, vR 1]) (k := 296) (bc2 := 0) (bs2 := 0) (pc := 205) dX11_init_205 z_mX8_init z_iX8_init z_wX11_92 (i_X8_296 (σ := σ) hst (hz.mono (m := 296) (Nat.le_of_ble_eq_true rfl))) rfl (by decide) ⟨(Nat.le_of_ble_eq_true rfl), (Nat.le_of_ble_eq_true rfl), (by decide +kernel), (by decide +kernel), (Nat.le_of_ble_eq_true rfl)⟩ ?_
  refine P_putR (j := 11) (m' := 0) (P' := [(1, 0)]) (pc := 208) dX11_init_208 z_CLX11 (by decide) z_wX11_95 rfl rfl rfl (by decide) (by decide) (by decide) (by decide +kernel) (by decide +kernel) z_h0 (z_clr (by decide +kernel) (by decide +kernel)) ?_
  refine V_aload_n (v := vR 1) (pc := 211) dX11_init_211 rfl ?_ (Or.inl rfl)
  refine V_iconst (x := (-1)) (pc := 212) dX11_init_212 (by decide) ?_
  refine V_putI (j := 13) (k := 1) (x := (-1)) (pc := 213) dX11_init_213 z_CLX11 (by decide) z_wX11_99 rfl (by decide) (by decide) (by decide) (by decide +kernel) (by decide) ?_
  have hz1 := z_zs.up (k := 1) (j := 13) (v := (-1)) (hz.mono (m := 308) (Nat.le_of_ble_eq_true rfl)) (by decide)
  refine V_iconst (x := 0) (pc := 216) dX11_init_216 (by decide) ?_
  refine V_istore_n (x := 0) (lv' := [vR 1, vI 0]) (pc := 217) dX11_init_217 rfl ?_ (by decide)
  refine V_iload_n (x := 0) (pc := 218) dX11_init_218 rfl ?_
  refine V_gets (i := 2) (pc := 219) dX11_init_219 (by decide) z_wX11_9 ?_
  refine V_tlen (i := 2) (pc := 222) dX11_init_222 (by decide) ?_
  refine V_icmp_ge (tgt := 245) (pc := 223) dX11_init_223 (fun h => absurd h (by decide)) (fun _ => ?_) (by decide)
  refine V_aload_n (v := vR 1) (pc := 226) dX11_init_226 rfl ?_ (Or.inl rfl)
  refine V_getR (r := 2) (j := 0) (pc := 227) dX11_init_227 z_CLX11 (by decide) z_wX11_18 (by decide) (by decide) (by decide) (by decide +kernel) (by decide +kernel) ?_
  refine V_iload_n (x := 0) (pc := 230) dX11_init_230 rfl ?_
  refine V_gets (i := 2) (pc := 231) dX11_init_231 (by decide) z_wX11_9 ?_
  refine V_iload_n (x := 0) (pc := 234) dX11_init_234 rfl ?_
  refine V_tald (i := 2) (j := 0) (x := 120) (pc := 235) dX11_init_235 (by decide) (by decide) (by decide) (by decide +kernel) (by decide) ?_
  refine P_callV (as := [vI 0, vI 120]) (st := []) (k := 2) (c := 7) (bc2 := 0) (bs2 := 0) (pc := 236) dX11_init_236 z_mX7_put z_vX7_put z_wX11_103 (i_put (c := 3) hst (by decide) (by decide) (by decide +kernel) (by decide +kernel) (by decide) (by decide) (by decide +kernel) (by decide) (by decide +kernel) (by decide +kernel)) rfl (by decide) (by decide) (by decide +kernel) (by decide) rfl rfl ⟨(Nat.le_of_ble_eq_true rfl), (Nat.le_of_ble_eq_true rfl), (by decide +kernel), (by decide +kernel), (Nat.le_of_ble_eq_true rfl)⟩ ?_
  have hz2 := z_zs.up (k := 3) (j := 0) (v := 120) (hz1.mono (m := 308) (Nat.le_of_ble_eq_true rfl)) (by decide)
  refine V_iinc (x := 0) (y := 1) (lv' := [vR 1, vI 1]) (pc := 239) dX11_init_239 rfl (by decide +kernel) rfl ?_ (by decide)
  refine V_goto (tgt := 218) (pc := 242) dX11_init_242 ?_ (by decide)
  refine V_iload_n (x := 1) (pc := 218) dX11_init_218 rfl ?_
  refine V_gets (i := 2) (pc := 219) dX11_init_219 (by decide) z_wX11_9 ?_
  refine V_tlen (i := 2) (pc := 222) dX11_init_222 (by decide) ?_
  refine V_icmp_ge (tgt := 245) (pc := 223) dX11_init_223 (fun h => absurd h (by decide)) (fun _ => ?_) (by decide)
  refine V_aload_n (v := vR 1) (pc := 226) dX11_init_226 rfl ?_ (Or.inl rfl)
  refine V_getR (r := 2) (j := 0) (pc := 227) dX11_init_227 z_CLX11 (by decide) z_wX11_18 (by decide) (by decide) (by decide) (by decide +kernel) (by decide +kernel) ?_
  refine V_iload_n (x := 1) (pc := 230) dX11_init_230 rfl ?_
  refine V_gets (i := 2) (pc := 231) dX11_init_231 (by decide) z_wX11_9 ?_
  refine V_iload_n (x := 1) (pc := 234) dX11_init_234 rfl ?_
  refine V_tald (i := 2) (j := 1) (x := 2) (pc := 235) dX11_init_235 (by decide) (by decide) (by decide) (by decide +kernel) (by decide) ?_
  refine P_callV (as := [vI 1, vI 2]) (st := []) (k := 2) (c := 7) (bc2 := 0) (bs2 := 0) (pc := 236) dX11_init_236 z_mX7_put z_vX7_put z_wX11_103 (i_put (c := 3) hst (by decide) (by decide) (by decide +kernel) (by decide +kernel) (by decide) (by decide) (by decide +kernel) (by decide) (by decide +kernel) (by decide +kernel)) rfl (by decide) (by decide) (by decide +kernel) (by decide) rfl rfl ⟨(Nat.le_of_ble_eq_true rfl), (Nat.le_of_ble_eq_true rfl), (by decide +kernel), (by decide +kernel), (Nat.le_of_ble_eq_true rfl)⟩ ?_
  have hz3 := z_zs.up (k := 3) (j := 1) (v := 2) (hz2.mono (m := 308) (Nat.le_of_ble_eq_true rfl)) (by decide)
  refine V_iinc (x := 1) (y := 2) (lv' := [vR 1, vI 2]) (pc := 239) dX11_init_239 rfl (by decide +kernel) rfl ?_ (by decide)
  refine V_goto (tgt := 218) (pc := 242) dX11_init_242 ?_ (by decide)
  refine V_iload_n (x := 2) (pc := 218) dX11_init_218 rfl ?_
  refine V_gets (i := 2) (pc := 219) dX11_init_219 (by decide) z_wX11_9 ?_
  refine V_tlen (i := 2) (pc := 222) dX11_init_222 (by decide) ?_
  refine V_icmp_ge (tgt := 245) (pc := 223) dX11_init_223 (fun h => absurd h (by decide)) (fun _ => ?_) (by decide)
  refine V_aload_n (v := vR 1) (pc := 226) dX11_init_226 rfl ?_ (Or.inl rfl)
  refine V_getR (r := 2) (j := 0) (pc := 227) dX11_init_227 z_CLX11 (by decide) z_wX11_18 (by decide) (by decide) (by decide) (by decide +kernel) (by decide +kernel) ?_
  refine V_iload_n (x := 2) (pc := 230) dX11_init_230 rfl ?_
  refine V_gets (i := 2) (pc := 231) dX11_init_231 (by decide) z_wX11_9 ?_
  refine V_iload_n (x := 2) (pc := 234) dX11_init_234 rfl ?_
  refine V_tald (i := 2) (j := 2) (x := 3) (pc := 235) dX11_init_235 (by decide) (by decide) (by decide) (by decide +kernel) (by decide) ?_
  refine P_callV (as := [vI 2, vI 3]) (st := []) (k := 2) (c := 7) (bc2 := 0) (bs2 := 0) (pc := 236) dX11_init_236 z_mX7_put z_vX7_put z_wX11_103 (i_put (c := 3) hst (by decide) (by decide) (by decide +kernel) (by decide +kernel) (by decide) (by decide) (by decide +kernel) (by decide) (by decide +kernel) (by decide +kernel)) rfl (by decide) (by decide) (by decide +kernel) (by decide) rfl rfl ⟨(Nat.le_of_ble_eq_true rfl), (Nat.le_of_ble_eq_true rfl), (by decide +kernel), (by decide +kernel), (Nat.le_of_ble_eq_true rfl)⟩ ?_
  have hz4 := z_zs.up (k := 3) (j := 2) (v := 3) (hz3.mono (m := 308) (Nat.le_of_ble_eq_true rfl)) (by decide)
  refine V_iinc (x := 2) (y := 3) (lv' := [vR 1, vI 3]) (pc := 239) dX11_init_239 rfl (by decide +kernel) rfl ?_ (by decide)
  refine V_goto (tgt := 218) (pc := 242) dX11_init_242 ?_ (by decide)
  refine V_iload_n (x := 3) (pc := 218) dX11_init_218 rfl ?_
  refine V_gets (i := 2) (pc := 219) dX11_init_219 (by decide) z_wX11_9 ?_
  refine V_tlen (i := 2) (pc := 222) dX11_init_222 (by decide) ?_
  refine V_icmp_ge (tgt := 245) (pc := 223) dX11_init_223 (fun h => absurd h (by decide)) (fun _ => ?_) (by decide)
  refine V_aload_n (v := vR 1) (pc := 226) dX11_init_226 rfl ?_ (Or.inl rfl)
  refine V_getR (r := 2) (j := 0) (pc := 227) dX11_init_227 z_CLX11 (by decide) z_wX11_18 (by decide) (by decide) (by decide) (by decide +kernel) (by decide +kernel) ?_
  refine V_iload_n (x := 3) (pc := 230) dX11_init_230 rfl ?_
  refine V_gets (i := 2) (pc := 231) dX11_init_231 (by decide) z_wX11_9 ?_
  refine V_iload_n (x := 3) (pc := 234) dX11_init_234 rfl ?_
  refine V_tald (i := 2) (j := 3) (x := 0) (pc := 235) dX11_init_235 (by decide) (by decide) (by decide) (by decide +kernel) (by decide) ?_
  refine P_callV (as := [vI 3, vI 0]) (st := []) (k := 2) (c := 7) (bc2 := 0) (bs2 := 0) (pc := 236) dX11_init_236 z_mX7_put z_vX7_put z_wX11_103 (i_put (c := 3) hst (by decide) (by decide) (by decide +kernel) (by decide +kernel) (by decide) (by decide) (by decide +kernel) (by decide) (by decide +kernel) (by decide +kernel)) rfl (by decide) (by decide) (by decide +kernel) (by decide) rfl rfl ⟨(Nat.le_of_ble_eq_true rfl), (Nat.le_of_ble_eq_true rfl), (by decide +kernel), (by decide +kernel), (Nat.le_of_ble_eq_true rfl)⟩ ?_
  have hz5 := z_zs.up (k := 3) (j := 3) (v := 0) (hz4.mono (m := 308) (Nat.le_of_ble_eq_true rfl)) (by decide)
  refine V_iinc (x := 3) (y := 4) (lv' := [vR 1, vI 4]) (pc := 239) dX11_init_239 rfl (by decide +kernel) rfl ?_ (by decide)
  refine V_goto (tgt := 218) (pc := 242) dX11_init_242 ?_ (by decide)
  refine V_iload_n (x := 4) (pc := 218) dX11_init_218 rfl ?_
  refine V_gets (i := 2) (pc := 219) dX11_init_219 (by decide) z_wX11_9 ?_
  refine V_tlen (i := 2) (pc := 222) dX11_init_222 (by decide) ?_
  refine V_icmp_ge (tgt := 245) (pc := 223) dX11_init_223 (fun h => absurd h (by decide)) (fun _ => ?_) (by decide)
  refine V_aload_n (v := vR 1) (pc := 226) dX11_init_226 rfl ?_ (Or.inl rfl)
  refine V_getR (r := 2) (j := 0) (pc := 227) dX11_init_227 z_CLX11 (by decide) z_wX11_18 (by decide) (by decide) (by decide) (by decide +kernel) (by decide +kernel) ?_
  refine V_iload_n (x := 4) (pc := 230) dX11_init_230 rfl ?_
  refine V_gets (i := 2) (pc := 231) dX11_init_231 (by decide) z_wX11_9 ?_
  refine V_iload_n (x := 4) (pc := 234) dX11_init_234 rfl ?_
  refine V_tald (i := 2) (j := 4) (x := 0) (pc := 235) dX11_init_235 (by decide) (by decide) (by decide) (by decide +kernel) (by decide) ?_
  refine P_callV (as := [vI 4, vI 0]) (st := []) (k := 2) (c := 7) (bc2 := 0) (bs2 := 0) (pc := 236) dX11_init_236 z_mX7_put z_vX7_put z_wX11_103 (i_put (c := 3) hst (by decide) (by decide) (by decide +kernel) (by decide +kernel) (by decide) (by decide) (by decide +kernel) (by decide) (by decide +kernel) (by decide +kernel)) rfl (by decide) (by decide) (by decide +kernel) (by decide) rfl rfl ⟨(Nat.le_of_ble_eq_true rfl), (Nat.le_of_ble_eq_true rfl), (by decide +kernel), (by decide +kernel), (Nat.le_of_ble_eq_true rfl)⟩ ?_
  have hz6 := z_zs.up (k := 3) (j := 4) (v := 0) (hz5.mono (m := 308) (Nat.le_of_ble_eq_true rfl)) (by decide)
  refine V_iinc (x := 4) (y := 5) (lv' := [vR 1, vI 5]) (pc := 239) dX11_init_239 rfl (by decide +kernel) rfl ?_ (by decide)
  refine V_goto (tgt := 218) (pc := 242) dX11_init_242 ?_ (by decide)
  refine V_iload_n (x := 5) (pc := 218) dX11_init_218 rfl ?_
  refine V_gets (i := 2) (pc := 219) dX11_init_219 (by decide) z_wX11_9 ?_
  refine V_tlen (i := 2) (pc := 222) dX11_init_222 (by decide) ?_
  refine V_icmp_ge (tgt := 245) (pc := 223) dX11_init_223 (fun h => absurd h (by decide)) (fun _ => ?_) (by decide)
  refine V_aload_n (v := vR 1) (pc := 226) dX11_init_226 rfl ?_ (Or.inl rfl)
  refine V_getR (r := 2) (j := 0) (pc := 227) dX11_init_227 z_CLX11 (by decide) z_wX11_18 (by decide) (by decide) (by decide) (by decide +kernel) (by decide +kernel) ?_
  refine V_iload_n (x := 5) (pc := 230) dX11_init_230 rfl ?_
  refine V_gets (i := 2) (pc := 231) dX11_init_231 (by decide) z_wX11_9 ?_
  refine V_iload_n (x := 5) (pc := 234) dX11_init_234 rfl ?_
  refine V_tald (i := 2) (j := 5) (x := 1) (pc := 235) dX11_init_235 (by decide) (by decide) (by decide) (by decide +kernel) (by decide) ?_
  refine P_callV (as := [vI 5, vI 1]) (st := []) (k := 2) (c := 7) (bc2 := 0) (bs2 := 0) (pc := 236) dX11_init_236 z_mX7_put z_vX7_put z_wX11_103 (i_put (c := 3) hst (by decide) (by decide) (by decide +kernel) (by decide +kernel) (by decide) (by decide) (by decide +kernel) (by decide) (by decide +kernel) (by decide +kernel)) rfl (by decide) (by decide) (by decide +kernel) (by decide) rfl rfl ⟨(Nat.le_of_ble_eq_true rfl), (Nat.le_of_ble_eq_true rfl), (by decide +kernel), (by decide +kernel), (Nat.le_of_ble_eq_true rfl)⟩ ?_
  have hz7 := z_zs.up (k := 3) (j := 5) (v := 1) (hz6.mono (m := 308) (Nat.le_of_ble_eq_true rfl)) (by decide)
  refine V_iinc (x := 5) (y := 6) (lv' := [vR 1, vI 6]) (pc := 239) dX11_init_239 rfl (by decide +kernel) rfl ?_ (by decide)
  refine V_goto (tgt := 218) (pc := 242) dX11_init_242 ?_ (by decide)
  refine V_iload_n (x := 6) (pc := 218) dX11_init_218 rfl ?_
  refine V_gets (i := 2) (pc := 219) dX11_init_219 (by decide) z_wX11_9 ?_
  refine V_tlen (i := 2) (pc := 222) dX11_init_222 (by decide) ?_
  refine V_icmp_ge (tgt := 245) (pc := 223) dX11_init_223 (fun h => absurd h (by decide)) (fun _ => ?_) (by decide)
  refine V_aload_n (v := vR 1) (pc := 226) dX11_init_226 rfl ?_ (Or.inl rfl)
  refine V_getR (r := 2) (j := 0) (pc := 227) dX11_init_227 z_CLX11 (by decide) z_wX11_18 (by decide) (by decide) (by decide) (by decide +kernel) (by decide +kernel) ?_
  refine V_iload_n (x := 6) (pc := 230) dX11_init_230 rfl ?_
  refine V_gets (i := 2) (pc := 231) dX11_init_231 (by decide) z_wX11_9 ?_
  refine V_iload_n (x := 6) (pc := 234) dX11_init_234 rfl ?_
  refine V_tald (i := 2) (j := 6) (x := 0) (pc := 235) dX11_init_235 (by decide) (by decide) (by decide) (by decide +kernel) (by decide) ?_
  refine P_callV (as := [vI 6, vI 0]) (st := []) (k := 2) (c := 7) (bc2 := 0) (bs2 := 0) (pc := 236) dX11_init_236 z_mX7_put z_vX7_put z_wX11_103 (i_put (c := 3) hst (by decide) (by decide) (by decide +kernel) (by decide +kernel) (by decide) (by decide) (by decide +kernel) (by decide) (by decide +kernel) (by decide +kernel)) rfl (by decide) (by decide) (by decide +kernel) (by decide) rfl rfl ⟨(Nat.le_of_ble_eq_true rfl), (Nat.le_of_ble_eq_true rfl), (by decide +kernel), (by decide +kernel), (Nat.le_of_ble_eq_true rfl)⟩ ?_
  have hz8 := z_zs.up (k := 3) (j := 6) (v := 0) (hz7.mono (m := 308) (Nat.le_of_ble_eq_true rfl)) (by decide)
  refine V_iinc (x := 6) (y := 7) (lv' := [vR 1, vI 7]) (pc := 239) dX11_init_239 rfl (by decide +kernel) rfl ?_ (by decide)
  refine V_goto (tgt := 218) (pc := 242) dX11_init_242 ?_ (by decide)
  refine V_iload_n (x := 7) (pc := 218) dX11_init_218 rfl ?_
  refine V_gets (i := 2) (pc := 219) dX11_init_219 (by decide) z_wX11_9 ?_
  refine V_tlen (i := 2) (pc := 222) dX11_init_222 (by decide) ?_
  refine V_icmp_ge (tgt := 245) (pc := 223) dX11_init_223 (fun h => absurd h (by decide)) (fun _ => ?_) (by decide)
  refine V_aload_n (v := vR 1) (pc := 226) dX11_init_226 rfl ?_ (Or.inl rfl)
  refine V_getR (r := 2) (j := 0) (pc := 227) dX11_init_227 z_CLX11 (by decide) z_wX11_18 (by decide) (by decide) (by decide) (by decide +kernel) (by decide +kernel) ?_
  refine V_iload_n (x := 7) (pc := 230) dX11_init_230 rfl ?_
  refine V_gets (i := 2) (pc := 231) dX11_init_231 (by decide) z_wX11_9 ?_
  refine V_iload_n (x := 7) (pc := 234) dX11_init_234 rfl ?_
  refine V_tald (i := 2) (j := 7) (x := 0) (pc := 235) dX11_init_235 (by decide) (by decide) (by decide) (by decide +kernel) (by decide) ?_
  refine P_callV (as := [vI 7, vI 0]) (st := []) (k := 2) (c := 7) (bc2 := 0) (bs2 := 0) (pc := 236) dX11_init_236 z_mX7_put z_vX7_put z_wX11_103 (i_put (c := 3) hst (by decide) (by decide) (by decide +kernel) (by decide +kernel) (by decide) (by decide) (by decide +kernel) (by decide) (by decide +kernel) (by decide +kernel)) rfl (by decide) (by decide) (by decide +kernel) (by decide) rfl rfl ⟨(Nat.le_of_ble_eq_true rfl), (Nat.le_of_ble_eq_true rfl), (by decide +kernel), (by decide +kernel), (Nat.le_of_ble_eq_true rfl)⟩ ?_
  have hz9 := z_zs.up (k := 3) (j := 7) (v := 0) (hz8.mono (m := 308) (Nat.le_of_ble_eq_true rfl)) (by decide)
  refine V_iinc (x := 7) (y := 8) (lv' := [vR 1, vI 8]) (pc := 239) dX11_init_239 rfl (by decide +kernel) rfl ?_ (by decide)
  refine V_goto (tgt := 218) (pc := 242) dX11_init_242 ?_ (by decide)
  refine V_iload_n (x := 8) (pc := 218) dX11_init_218 rfl ?_
  refine V_gets (i := 2) (pc := 219) dX11_init_219 (by decide) z_wX11_9 ?_
  refine V_tlen (i := 2) (pc := 222) dX11_init_222 (by decide) ?_
  refine V_icmp_ge (tgt := 245) (pc := 223) dX11_init_223 (fun h => absurd h (by decide)) (fun _ => ?_) (by decide)
  refine V_aload_n (v := vR 1) (pc := 226) dX11_init_226 rfl ?_ (Or.inl rfl)
  refine V_getR (r := 2) (j := 0) (pc := 227) dX11_init_227 z_CLX11 (by decide) z_wX11_18 (by decide) (by decide) (by decide) (by decide +kernel) (by decide +kernel) ?_
  refine V_iload_n (x := 8) (pc := 230) dX11_init_230 rfl ?_
  refine V_gets (i := 2) (pc := 231) dX11_init_231 (by decide) z_wX11_9 ?_
  refine V_iload_n (x := 8) (pc := 234) dX11_init_234 rfl ?_
  refine V_tald (i := 2) (j := 8) (x := 4) (pc := 235) dX11_init_235 (by decide) (by decide) (by decide) (by decide +kernel) (by decide) ?_
  refine P_callV (as := [vI 8, vI 4]) (st := []) (k := 2) (c := 7) (bc2 := 0) (bs2 := 0) (pc := 236) dX11_init_236 z_mX7_put z_vX7_put z_wX11_103 (i_put (c := 3) hst (by decide) (by decide) (by decide +kernel) (by decide +kernel) (by decide) (by decide) (by decide +kernel) (by decide) (by decide +kernel) (by decide +kernel)) rfl (by decide) (by decide) (by decide +kernel) (by decide) rfl rfl ⟨(Nat.le_of_ble_eq_true rfl), (Nat.le_of_ble_eq_true rfl), (by decide +kernel), (by decide +kernel), (Nat.le_of_ble_eq_true rfl)⟩ ?_
  have hz10 := z_zs.up (k := 3) (j := 8) (v := 4) (hz9.mono (m := 308) (Nat.le_of_ble_eq_true rfl)) (by decide)
  refine V_iinc (x := 8) (y := 9) (lv' := [vR 1, vI 9]) (pc := 239) dX11_init_239 rfl (by decide +kernel) rfl ?_ (by decide)
  refine V_goto (tgt := 218) (pc := 242) dX11_init_242 ?_ (by decide)
  refine V_iload_n (x := 9) (pc := 218) dX11_init_218 rfl ?_
  refine V_gets (i := 2) (pc := 219) dX11_init_219 (by decide) z_wX11_9 ?_
  refine V_tlen (i := 2) (pc := 222) dX11_init_222 (by decide) ?_
  refine V_icmp_ge (tgt := 245) (pc := 223) dX11_init_223 (fun _ => ?_) (fun h => absurd h (by decide)) (by decide)
  refine P_pop (by decide +kernel) ?_
  exact P_ret (pc := 245) dX11_init_245 rfl
