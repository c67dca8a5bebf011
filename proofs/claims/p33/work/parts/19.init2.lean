/-! the constructors, by program (wip/tool/mkinit.py) -/
theorem z_thg (i : Nat) (h : i < 4000) : z_sh (3652 + 1 + (i : Int)) = (100, 2) := by
  unfold z_sh
  rw [if_neg (by omega), if_neg (by omega), if_neg (by omega), if_neg (by omega), if_neg (by omega), if_neg (by omega), if_neg (by omega), if_neg (by omega), if_neg (by omega), if_neg (by omega), if_neg (by omega), if_neg (by omega), if_neg (by omega), if_neg (by omega), if_pos (by omega)]
theorem z_thr (i : Nat) (h : i < 4000) : z_gr 3652 (i : Int) = 3652 + 1 + (i : Int) := by
  show 3653 + (i : Int) = _
  omega
theorem z_m3s2 (i : Nat) (h : i < 14) : z_sh (405 + 1 + ((i * (1 + 200) : Nat) : Int)) = (103, 200) := by
  have e : (405 + 1 + ((i * (1 + 200) : Nat) : Int)) = 406 + 201 * (i : Int) := by omega
  rw [e]; unfold z_sh
  rw [if_neg (by omega), if_neg (by omega), if_neg (by omega), if_pos (by omega), if_pos (by omega)]
theorem z_m3s3 (i j : Nat) (h : i < 14) (hj : j < 200) : z_sh (405 + 1 + ((i * (1 + 200) : Nat) : Int) + 1 + (j : Int)) = (100, 20) := by
  have e : (405 + 1 + ((i * (1 + 200) : Nat) : Int) + 1 + (j : Int)) = 407 + 201 * (i : Int) + (j : Int) := by omega
  rw [e]; unfold z_sh
  rw [if_neg (by omega), if_neg (by omega), if_neg (by omega), if_pos (by omega), if_neg (by omega)]
theorem z_m3g1 (i : Nat) (h : i < 14) : z_gr 405 (i : Int) = 405 + 1 + ((i * (1 + 200) : Nat) : Int) := by
  show 406 + 201 * (i : Int) = _
  omega
theorem z_m3g2 (i j : Nat) (h : i < 14) (hj : j < 200) : z_gr (405 + 1 + ((i * (1 + 200) : Nat) : Int)) (j : Int) = 405 + 1 + ((i * (1 + 200) : Nat) : Int) + 1 + (j : Int) := by
  have e : (405 + 1 + ((i * (1 + 200) : Nat) : Int)) = 406 + 201 * (i : Int) := by omega
  rw [e]; unfold z_gr
  rw [if_neg (by omega), if_neg (by omega), if_neg (by omega), if_pos (by omega), if_pos (by omega)]
theorem i_X12_309 {l : Launch} {K : z_K} {σ : z_M} (hst : l.stackTraces = false) (hz : z_zs σ 309) : z_C l K mX12_init 1 12 7348 134272 [vR 309] 309 (z_pd [(309, 146132773392924278530)]) σ (z_IQ 7657 (z_pd []) (z_up (z_up (z_up (z_up (z_up (z_up (z_up (z_up (z_up (z_up (z_up (z_up (z_up (z_up (z_up (z_up (z_up (z_up (z_up (z_up (z_up (z_up (z_up (z_up (z_up (z_up (z_up (z_up σ 309 5 (-1)) 312 0 120) 312 1 2) 312 2 3) 312 3 0) 312 4 0) 312 5 1) 312 6 0) 312 7 0) 312 8 4) 313 0 12) 313 1 0) 313 2 0) 313 3 0) 313 4 0) 313 5 0) 313 6 0) 313 7 0) 313 8 0) 314 0 999) 314 1 4) 314 2 6) 314 3 1) 314 4 1) 314 5 1) 314 6 1) 314 7 99) 314 8 12)) := by
  refine P_of (lv := [vR 309]) hst z_mX12_init rfl ?_ (Nat.le_of_ble_eq_true rfl) rfl
  refine V_aload_n (v := vR 309) (pc := 0) dX12_init_0 rfl ?_ (Or.inl rfl)
  refine V_obj (st := []) (pc := 1) dX12_init_1 z_wX12_1 z_obj1 z_obj2 (by decide) (Nat.le_of_ble_eq_true rfl) (Nat.le_of_ble_eq_true rfl) ?_
  refine V_aload_n (v := vR 309) (pc := 4) dX12_init_4 rfl ?_ (Or.inl rfl)
  refine V_iconst (x := 2) (pc := 5) dX12_init_5 (by decide) ?_
  refine P_newa (k := 310) (len := 2) (c := 100) (bc2 := 7347) (bs2 := 134270) (n2 := 310) (ty := .int) (pc := 6) dX12_init_6 z_arint (by decide +kernel) rfl rfl (by decide +kernel) (by decide) (by decide) (hz.mono (m := 309) (Nat.le_of_ble_eq_true rfl)) rfl (Or.inl ⟨rfl, rfl⟩) ?_
  refine P_putR (j := 1) (m' := 146132773392924278528) (P' := [(309, 146132773392924278528)]) (pc := 8) dX12_init_8 z_CLX12 (by decide) z_wX12_7 rfl rfl rfl (by decide) (by decide) (by decide) (by decide +kernel) (by decide +kernel) z_h0 (z_clr (by decide +kernel) (by decide +kernel)) ?_
  refine V_aload_n (v := vR 309) (pc := 11) dX12_init_11 rfl ?_ (Or.inl rfl)
  refine V_iconst (x := (-1)) (pc := 12) dX12_init_12 (by decide) ?_
  refine V_putI (j := 5) (k := 309) (x := (-1)) (pc := 13) dX12_init_13 z_CLX12 (by decide) z_wX12_13 rfl (by decide) (by decide) (by decide) (by decide +kernel) (by decide) ?_
  have hz1 := z_zs.up (k := 309) (j := 5) (v := (-1)) (hz.mono (m := 310) (Nat.le_of_ble_eq_true rfl)) (by decide)
  refine V_aload_n (v := vR 309) (pc := 16) dX12_init_16 rfl ?_ (Or.inl rfl)
  refine V_sipush (x := 300) (pc := 17) dX12_init_17 (by decide) ?_
  refine P_newa (k := 311) (len := 300) (c := 100) (bc2 := 7346) (bs2 := 133970) (n2 := 311) (ty := .int) (pc := 20) dX12_init_20 z_arint (by decide +kernel) rfl rfl (by decide +kernel) (by decide) (by decide) (hz1.mono (m := 310) (Nat.le_of_ble_eq_true rfl)) rfl (Or.inl ⟨rfl, rfl⟩) ?_
  refine P_putR (j := 8) (m' := 146132773392924278272) (P' := [(309, 146132773392924278272)]) (pc := 22) dX12_init_22 z_CLX12 (by decide) z_wX12_17 rfl rfl rfl (by decide) (by decide) (by decide) (by decide +kernel) (by decide +kernel) z_h0 (z_clr (by decide +kernel) (by decide +kernel)) ?_
  refine V_aload_n (v := vR 309) (pc := 25) dX12_init_25 rfl ?_ (Or.inl rfl)
  refine V_bipush (x := 9) (pc := 26) dX12_init_26 (by decide) ?_
  refine P_newa (k := 312) (len := 9) (c := 100) (bc2 := 7345) (bs2 := 133961) (n2 := 312) (ty := .int) (pc := 28) dX12_init_28 z_arint (by decide +kernel) rfl rfl (by decide +kernel) (by decide) (by decide) (hz1.mono (m := 311) (Nat.le_of_ble_eq_true rfl)) rfl (Or.inl ⟨rfl, rfl⟩) ?_
  refine V_dup (a := vR 312) (pc := 30) dX12_init_30 ?_ (by decide)
  refine V_iconst (x := 0) (pc := 31) dX12_init_31 (by decide) ?_
  refine V_bipush (x := 120) (pc := 32) dX12_init_32 (by decide) ?_
  refine V_iast (k := 312) (i := 0) (x := 120) (pc := 34) dX12_init_34 (by decide) (by decide) (by decide +kernel) (by decide) (by decide +kernel) ?_
  have hz2 := z_zs.up (k := 312) (j := 0) (v := 120) (hz1.mono (m := 312) (Nat.le_of_ble_eq_true rfl)) (by decide)
  refine V_dup (a := vR 312) (pc := 35) dX12_init_35 ?_ (by decide)
  refine V_iconst (x := 1) (pc := 36) dX12_init_36 (by decide) ?_
  refine V_iconst (x := 2) (pc := 37) dX12_init_37 (by decide) ?_
  refine V_iast (k := 312) (i := 1) (x := 2) (pc := 38) dX12_init_38 (by decide) (by decide) (by decide +kernel) (by decide) (by decide +kernel) ?_
  have hz3 := z_zs.up (k := 312) (j := 1) (v := 2) (hz2.mono (m := 312) (Nat.le_of_ble_eq_true rfl)) (by decide)
  refine V_dup (a := vR 312) (pc := 39) dX12_init_39 ?_ (by decide)
  refine V_iconst (x := 2) (pc := 40) dX12_init_40 (by decide) ?_
  refine V_iconst (x := 3) (pc := 41) dX12_init_41 (by decide) ?_
  refine V_iast (k := 312) (i := 2) (x := 3) (pc := 42) dX12_init_42 (by decide) (by decide) (by decide +kernel) (by decide) (by decide +kernel) ?_
  have hz4 := z_zs.up (k := 312) (j := 2) (v := 3) (hz3.mono (m := 312) (Nat.le_of_ble_eq_true rfl)) (by decide)
  refine V_dup (a := vR 312) (pc := 43) dX12_init_43 ?_ (by decide)
  refine V_iconst (x := 3) (pc := 44) dX12_init_44 (by decide) ?_
  refine V_iconst (x := 0) (pc := 45) dX12_init_45 (by decide) ?_
  refine V_iast (k := 312) (i := 3) (x := 0) (pc := 46) dX12_init_46 (by decide) (by decide) (by decide +kernel) (by decide) (by decide +kernel) ?_
  have hz5 := z_zs.up (k := 312) (j := 3) (v := 0) (hz4.mono (m := 312) (Nat.le_of_ble_eq_true rfl)) (by decide)
  refine V_dup (a := vR 312) (pc := 47) dX12_init_47 ?_ (by decide)
  refine V_iconst (x := 4) (pc := 48) dX12_init_48 (by decide) ?_
  refine V_iconst (x := 0) (pc := 49) dX12_init_49 (by decide) ?_
  refine V_iast (k := 312) (i := 4) (x := 0) (pc := 50) dX12_init_50 (by decide) (by decide) (by decide +kernel) (by decide) (by decide +kernel) ?_
  have hz6 := z_zs.up (k := 312) (j := 4) (v := 0) (hz5.mono (m := 312) (Nat.le_of_ble_eq_true rfl)) (by decide)
  refine V_dup (a := vR 312) (pc := 51) dX12_init_51 ?_ (by decide)
  refine V_iconst (x := 5) (pc := 52) dX12_init_52 (by decide) ?_
  refine V_iconst (x := 1) (pc := 53) dX12_init_53 (by decide) ?_
  refine V_iast (k := 312) (i := 5) (x := 1) (pc := 54) dX12_init_54 (by decide) (by decide) (by decide +kernel) (by decide) (by decide +kernel) ?_
  have hz7 := z_zs.up (k := 312) (j := 5) (v := 1) (hz6.mono (m := 312) (Nat.le_of_ble_eq_true rfl)) (by decide)
  refine V_dup (a := vR 312) (pc := 55) dX12_init_55 ?_ (by decide)
  refine V_bipush (x := 6) (pc := 56) dX12_init_56 (by decide) ?_
  refine V_iconst (x := 0) (pc := 58) dX12_init_58 (by decide) ?_
  refine V_iast (k := 312) (i := 6) (x := 0) (pc := 59) dX12_init_59 (by decide) (by decide) (by decide +kernel) (by decide) (by decide +kernel) ?_
  have hz8 := z_zs.up (k := 312) (j := 6) (v := 0) (hz7.mono (m := 312) (Nat.le_of_ble_eq_true rfl)) (by decide)
  refine V_dup (a := vR 312) (pc := 60) dX12_init_60 ?_ (by decide)
  refine V_bipush (x := 7) (pc := 61) dX12_init_61 (by decide) ?_
  refine V_iconst (x := 0) (pc := 63) dX12_init_63 (by decide) ?_
  refine V_iast (k := 312) (i := 7) (x := 0) (pc := 64) dX12_init_64 (by decide) (by decide) (by decide +kernel) (by decide) (by decide +kernel) ?_
  have hz9 := z_zs.up (k := 312) (j := 7) (v := 0) (hz8.mono (m := 312) (Nat.le_of_ble_eq_true rfl)) (by decide)
  refine V_dup (a := vR 312) (pc := 65) dX12_init_65 ?_ (by decide)
  refine V_bipush (x := 8) (pc := 66) dX12_init_66 (by decide) ?_
  refine V_iconst (x := 4) (pc := 68) dX12_init_68 (by decide) ?_
  refine V_iast (k := 312) (i := 8) (x := 4) (pc := 69) dX12_init_69 (by decide) (by decide) (by decide +kernel) (by decide) (by decide +kernel) ?_
  have hz10 := z_zs.up (k := 312) (j := 8) (v := 4) (hz9.mono (m := 312) (Nat.le_of_ble_eq_true rfl)) (by decide)
  refine P_putR (j := 9) (m' := 146132773392924277760) (P' := [(309, 146132773392924277760)]) (pc := 70) dX12_init_70 z_CLX12 (by decide) z_wX12_20 rfl rfl rfl (by decide) (by decide) (by decide) (by decide +kernel) (by decide +kernel) z_h0 (z_clr (by decide +kernel) (by decide +kernel)) ?_
  refine V_aload_n (v := vR 309) (pc := 73) dX12_init_73 rfl ?_ (Or.inl rfl)
  refine V_bipush (x := 9) (pc := 74) dX12_init_74 (by decide) ?_
  refine P_newa (k := 313) (len := 9) (c := 100) (bc2 := 7344) (bs2 := 133952) (n2 := 313) (ty := .int) (pc := 76) dX12_init_76 z_arint (by decide +kernel) rfl rfl (by decide +kernel) (by decide) (by decide) (hz10.mono (m := 312) (Nat.le_of_ble_eq_true rfl)) rfl (Or.inl ⟨rfl, rfl⟩) ?_
  refine V_dup (a := vR 313) (pc := 78) dX12_init_78 ?_ (by decide)
  refine V_iconst (x := 0) (pc := 79) dX12_init_79 (by decide) ?_
  refine V_bipush (x := 12) (pc := 80) dX12_init_80 (by decide) ?_
  refine V_iast (k := 313) (i := 0) (x := 12) (pc := 82) dX12_init_82 (by decide) (by decide) (by decide +kernel) (by decide) (by decide +kernel) ?_
  have hz11 := z_zs.up (k := 313) (j := 0) (v := 12) (hz10.mono (m := 313) (Nat.le_of_ble_eq_true rfl)) (by decide)
  refine V_dup (a := vR 313) (pc := 83) dX12_init_83 ?_ (by decide)
  refine V_iconst (x := 1) (pc := 84) dX12_init_84 (by decide) ?_
  refine V_iconst (x := 0) (pc := 85) dX12_init_85 (by decide) ?_
  refine V_iast (k := 313) (i := 1) (x := 0) (pc := 86) dX12_init_86 (by decide) (by decide) (by decide +kernel) (by decide) (by decide +kernel) ?_
  have hz12 := z_zs.up (k := 313) (j := 1) (v := 0) (hz11.mono (m := 313) (Nat.le_of_ble_eq_true rfl)) (by decide)
  refine V_dup (a := vR 313) (pc := 87) dX12_init_87 ?_ (by decide)
  refine V_iconst (x := 2) (pc := 88) dX12_init_88 (by decide) ?_
  refine V_iconst (x := 0) (pc := 89) dX12_init_89 (by decide) ?_
  refine V_iast (k := 313) (i := 2) (x := 0) (pc := 90) dX12_init_90 (by decide) (by decide) (by decide +kernel) (by decide) (by decide +kernel) ?_
  have hz13 := z_zs.up (k := 313) (j := 2) (v := 0) (hz12.mono (m := 313) (Nat.le_of_ble_eq_true rfl)) (by decide)
  refine V_dup (a := vR 313) (pc := 91) dX12_init_91 ?_ (by decide)
  refine V_iconst (x := 3) (pc := 92) dX12_init_92 (by decide) ?_
  refine V_iconst (x := 0) (pc := 93) dX12_init_93 (by decide) ?_
  refine V_iast (k := 313) (i := 3) (x := 0) (pc := 94) dX12_init_94 (by decide) (by decide) (by decide +kernel) (by decide) (by decide +kernel) ?_
  have hz14 := z_zs.up (k := 313) (j := 3) (v := 0) (hz13.mono (m := 313) (Nat.le_of_ble_eq_true rfl)) (by decide)
  refine V_dup (a := vR 313) (pc := 95) dX12_init_95 ?_ (by decide)
  refine V_iconst (x := 4) (pc := 96) dX12_init_96 (by decide) ?_
  refine V_iconst (x := 0) (pc := 97) dX12_init_97 (by decide) ?_
  refine V_iast (k := 313) (i := 4) (x := 0) (pc := 98) dX12_init_98 (by decide) (by decide) (by decide +kernel) (by decide) (by decide +kernel) ?_
  have hz15 := z_zs.up (k := 313) (j := 4) (v := 0) (hz14.mono (m := 313) (Nat.le_of_ble_eq_true rfl)) (by decide)
  refine V_dup (a := vR 313) (pc := 99) dX12_init_99 ?_ (by decide)
  refine V_iconst (x := 5) (pc := 100) dX12_init_100 (by decide) ?_
  refine V_iconst (x := 0) (pc := 101) dX12_init_101 (by decide) ?_
  refine V_iast (k := 313) (i := 5) (x := 0) (pc := 102) dX12_init_102 (by decide) (by decide) (by decide +kernel) (by decide) (by decide +kernel) ?_
  have hz16 := z_zs.up (k := 313) (j := 5) (v := 0) (hz15.mono (m := 313) (Nat.le_of_ble_eq_true rfl)) (by decide)
  refine V_dup (a := vR 313) (pc := 103) dX12_init_103 ?_ (by decide)
  refine V_bipush (x := 6) (pc := 104) dX12_init_104 (by decide) ?_
  refine V_iconst (x := 0) (pc := 106) dX12_init_106 (by decide) ?_
  refine V_iast (k := 313) (i := 6) (x := 0) (pc := 107) dX12_init_107 (by decide) (by decide) (by decide +kernel) (by decide) (by decide +kernel) ?_
  have hz17 := z_zs.up (k := 313) (j := 6) (v := 0) (hz16.mono (m := 313) (Nat.le_of_ble_eq_true rfl)) (by decide)
  refine V_dup (a := vR 313) (pc := 108) dX12_init_108 ?_ (by decide)
  refine V_bipush (x := 7) (pc := 109) dX12_init_109 (by decide) ?_
  refine V_iconst (x := 0) (pc := 111) dX12_init_111 (by decide) ?_
  refine V_iast (k := 313) (i := 7) (x := 0) (pc := 112) dX12_init_112 (by decide) (by decide) (by decide +kernel) (by decide) (by decide +kernel) ?_
  have hz18 := z_zs.up (k := 313) (j := 7) (v := 0) (hz17.mono (m := 313) (Nat.le_of_ble_eq_true rfl)) (by decide)
  refine V_dup (a := vR 313) (pc := 113) dX12_init_113 ?_ (by decide)
  refine V_bipush (x := 8) (pc := 114) dX12_init_114 (by decide) ?_
  refine V_iconst (x := 0) (pc := 116) dX12_init_116 (by decide) ?_
  refine V_iast (k := 313) (i := 8) (x := 0) (pc := 117) dX12_init_117 (by decide) (by decide) (by decide +kernel) (by decide) (by decide +kernel) ?_
  have hz19 := z_zs.up (k := 313) (j := 8) (v := 0) (hz18.mono (m := 313) (Nat.le_of_ble_eq_true rfl)) (by decide)
  refine P_putR (j := 10) (m' := 146132773392924276736) (P' := [(309, 146132773392924276736)]) (pc := 118) dX12_init_118 z_CLX12 (by decide) z_wX12_23 rfl rfl rfl (by decide) (by decide) (by decide) (by decide +kernel) (by decide +kernel) z_h0 (z_clr (by decide +kernel) (by decide +kernel)) ?_
  refine V_aload_n (v := vR 309) (pc := 121) dX12_init_121 rfl ?_ (Or.inl rfl)
  refine V_bipush (x := 9) (pc := 122) dX12_init_122 (by decide) ?_
  refine P_newa (k := 314) (len := 9) (c := 100) (bc2 := 7343) (bs2 := 133943) (n2 := 314) (ty := .int) (pc := 124) dX12_init_124 z_arint (by decide +kernel) rfl rfl (by decide +kernel) (by decide) (by decide) (hz19.mono (m := 313) (Nat.le_of_ble_eq_true rfl)) rfl (Or.inl ⟨rfl, rfl⟩) ?_
  refine V_dup (a := vR 314) (pc := 126) dX12_init_126 ?_ (by decide)
  refine V_iconst (x := 0) (pc := 127) dX12_init_127 (by decide) ?_
  refine V_sipush (x := 999) (pc := 128) dX12_init_128 (by decide) ?_
  refine V_iast (k := 314) (i := 0) (x := 999) (pc := 131) dX12_init_131 (by decide) (by decide) (by decide +kernel) (by decide) (by decide +kernel) ?_
  have hz20 := z_zs.up (k := 314) (j := 0) (v := 999) (hz19.mono (m := 314) (Nat.le_of_ble_eq_true rfl)) (by decide)
  refine V_dup (a := vR 314) (pc := 132) dX12_init_132 ?_ (by decide)
  refine V_iconst (x := 1) (pc := 133) dX12_init_133 (by decide) ?_
  refine V_iconst (x := 4) (pc := 134) dX12_init_134 (by decide) ?_
  refine V_iast (k := 314) (i := 1) (x := 4) (pc := 135) dX12_init_135 (by decide) (by decide) (by decide +kernel) (by decide) (by decide +kernel) ?_
  have hz21 := z_zs.up (k := 314) (j := 1) (v := 4) (hz20.mono (m := 314) (Nat.le_of_ble_eq_true rfl)) (by decide)
  refine V_dup (a := vR 314) (pc := 136) dX12_init_136 ?_ (by decide)
  refine V_iconst (x := 2) (pc := 137) dX12_init_137 (by decide) ?_
  refine V_bipush (x := 6) (pc := 138) dX12_init_138 (by decide) ?_
  refine V_iast (k := 314) (i := 2) (x := 6) (pc := 140) dX12_init_140 (by decide) (by decide) (by decide +kernel) (by decide) (by decide +kernel) ?_
  have hz22 := z_zs.up (k := 314) (j := 2) (v := 6) (hz21.mono (m := 314) (Nat.le_of_ble_eq_true rfl)) (by decide)
  refine V_dup (a := vR 314) (pc := 141) dX12_init_141 ?_ (by decide)
  refine V_iconst (x := 3) (pc := 142) dX12_init_142 (by decide) ?_
  refine V_iconst (x := 1) (pc := 143) dX12_init_143 (by decide) ?_
  refine V_iast (k := 314) (i := 3) (x := 1) (pc := 144) dX12_init_144 (by decide) (by decide) (by decide +kernel) (by decide) (by decide +kernel) ?_
  have hz23 := z_zs.up (k := 314) (j := 3) (v := 1) (hz22.mono (m := 314) (Nat.le_of_ble_eq_true rfl)) (by decide)
  refine V_dup (a := vR 314) (pc := 145) dX12_init_145 ?_ (by decide)
  refine V_iconst (x := 4) (pc := 146) dX12_init_146 (by decide) ?_
  refine V_iconst (x := 1) (pc := 147) dX12_init_147 (by decide) ?_
  refine V_iast (k := 314) (i := 4) (x := 1) (pc := 148) dX12_init_148 (by decide) (by decide) (by decide +kernel) (by decide) (by decide +kernel) ?_
  have hz24 := z_zs.up (k := 314) (j := 4) (v := 1) (hz23.mono (m := 314) (Nat.le_of_ble_eq_true rfl)) (by decide)
  refine V_dup (a := vR 314) (pc := 149) dX12_init_149 ?_ (by decide)
  refine V_iconst (x := 5) (pc := 150) dX12_init_150 (by decide) ?_
  refine V_iconst (x := 1) (pc := 151) dX12_init_151 (by decide) ?_
  refine V_iast (k := 314) (i := 5) (x := 1) (pc := 152) dX12_init_152 (by decide) (by decide) (by decide +kernel) (by decide) (by decide +kernel) ?_
  have hz25 := z_zs.up (k := 314) (j := 5) (v := 1) (hz24.mono (m := 314) (Nat.le_of_ble_eq_true rfl)) (by decide)
  refine V_dup (a := vR 314) (pc := 153) dX12_init_153 ?_ (by decide)
  refine V_bipush (x := 6) (pc := 154) dX12_init_154 (by decide) ?_
  refine V_iconst (x := 1) (pc := 156) dX12_init_156 (by decide) ?_
  refine V_iast (k := 314) (i := 6) (x := 1) (pc := 157) dX12_init_157 (by decide) (by decide) (by decide +kernel) (by decide) (by decide +kernel) ?_
  have hz26 := z_zs.up (k := 314) (j := 6) (v := 1) (hz25.mono (m := 314) (Nat.le_of_ble_eq_true rfl)) (by decide)
  refine V_dup (a := vR 314) (pc := 158) dX12_init_158 ?_ (by decide)
  refine V_bipush (x := 7) (pc := 159) dX12_init_159 (by decide) ?_
  refine V_bipush (x := 99) (pc := 161) dX12_init_161 (by decide) ?_
  refine V_iast (k := 314) (i := 7) (x := 99) (pc := 163) dX12_init_163 (by decide) (by decide) (by decide +kernel) (by decide) (by decide +kernel) ?_
  have hz27 := z_zs.up (k := 314) (j := 7) (v := 99) (hz26.mono (m := 314) (Nat.le_of_ble_eq_true rfl)) (by decide)
  refine V_dup (a := vR 314) (pc := 164) dX12_init_164 ?_ (by decide)
  refine V_bipush (x := 8) (pc := 165) dX12_init_165 (by decide) ?_
  refine V_bipush (x := 12) (pc := 167) dX12_init_167 (by decide) ?_
  refine V_iast (k := 314) (i := 8) (x := 12) (pc := 169) dX12_init_169 (by decide) (by decide) (by decide +kernel) (by decide) (by decide +kernel) ?_
  have hz28 := z_zs.up (k := 314) (j := 8) (v := 12) (hz27.mono (m := 314) (Nat.le_of_ble_eq_true rfl)) (by decide)
  refine P_putR (j := 11) (m' := 146132773392924274688) (P' := [(309, 146132773392924274688)]) (pc := 170) dX12_init_170 z_CLX12 (by decide) z_wX12_26 rfl rfl rfl (by decide) (by decide) (by decide) (by decide +kernel) (by decide +kernel) z_h0 (z_clr (by decide +kernel) (by decide +kernel)) ?_
  refine V_aload_n (v := vR 309) (pc := 173) dX12_init_173 rfl ?_ (Or.inl rfl)
  refine V_bipush (x := 14) (pc := 174) dX12_init_174 (by decide) ?_
  refine V_iconst (x := 3) (pc := 176) dX12_init_176 (by decide) ?_
  refine V_mnew2 (k := 315) (N1 := 14) (N2 := 3) (bc2 := 7328) (bs2 := 133887) (n2 := 329) (pc := 177) dX12_init_177 z_wX12_29 (by decide +kernel) rfl rfl (by decide) (by decide) (by decide +kernel) (by decide +kernel) (by decide +kernel) (by decide) (P_mnew (hz28.mono (m := 314) (Nat.le_of_ble_eq_true rfl)) (fun a h => if_neg (by omega)) ?_)
  refine P_putR (j := 12) (m' := 146132773392924270592) (P' := [(309, 146132773392924270592)]) (pc := 181) dX12_init_181 z_CLX12 (by decide) z_wX12_31 rfl rfl rfl (by decide) (by decide) (by decide) (by decide +kernel) (by decide +kernel) z_h0 (z_clr (by decide +kernel) (by decide +kernel)) ?_
  refine V_aload_n (v := vR 309) (pc := 184) dX12_init_184 rfl ?_ (Or.inl rfl)
  refine V_bipush (x := 14) (pc := 185) dX12_init_185 (by decide) ?_
  refine V_sipush (x := 200) (pc := 187) dX12_init_187 (by decide) ?_
  refine V_mnew2 (k := 330) (N1 := 14) (N2 := 200) (bc2 := 7313) (bs2 := 131073) (n2 := 344) (pc := 190) dX12_init_190 z_wX12_29 (by decide +kernel) rfl rfl (by decide) (by decide) (by decide +kernel) (by decide +kernel) (by decide +kernel) (by decide) (P_mnew (hz28.mono (m := 329) (Nat.le_of_ble_eq_true rfl)) (fun a h => if_neg (by omega)) ?_)
  refine P_putR (j := 13) (m' := 146132773392924262400) (P' := [(309, 146132773392924262400)]) (pc := 194) dX12_init_194 z_CLX12 (by decide) z_wX12_34 rfl rfl rfl (by decide) (by decide) (by decide) (by decide +kernel) (by decide +kernel) z_h0 (z_clr (by decide +kernel) (by decide +kernel)) ?_
  refine V_aload_n (v := vR 309) (pc := 197) dX12_init_197 rfl ?_ (Or.inl rfl)
  refine V_bipush (x := 14) (pc := 198) dX12_init_198 (by decide) ?_
  refine V_sipush (x := 200) (pc := 200) dX12_init_200 (by decide) ?_
  refine V_mnew2 (k := 345) (N1 := 14) (N2 := 200) (bc2 := 7298) (bs2 := 128259) (n2 := 359) (pc := 203) dX12_init_203 z_wX12_29 (by decide +kernel) rfl rfl (by decide) (by decide) (by decide +kernel) (by decide +kernel) (by decide +kernel) (by decide) (P_mnew (hz28.mono (m := 344) (Nat.le_of_ble_eq_true rfl)) (fun a h => if_neg (by omega)) ?_)
  refine P_putR (j := 14) (m' := 146132773392924246016) (P' := [(309, 146132773392924246016)]) (pc := 207) dX12_init_207 z_CLX12 (by decide) z_wX12_37 rfl rfl rfl (by decide) (by decide) (by decide) (by decide +kernel) (by decide +kernel) z_h0 (z_clr (by decide +kernel) (by decide +kernel)) ?_
  refine V_aload_n (v := vR 309) (pc := 210) dX12_init_210 rfl ?_ (Or.inl rfl)
  refine V_bipush (x := 14) (pc := 211) dX12_init_211 (by decide) ?_
  refine V_sipush (x := 200) (pc := 213) dX12_init_213 (by decide) ?_
  refine V_mnew2 (k := 360) (N1 := 14) (N2 := 200) (bc2 := 7283) (bs2 := 125445) (n2 := 374) (pc := 216) dX12_init_216 z_wX12_29 (by decide +kernel) rfl rfl (by decide) (by decide) (by decide +kernel) (by decide +kernel) (by decide +kernel) (by decide) (P_mnew (hz28.mono (m := 359) (Nat.le_of_ble_eq_true rfl)) (fun a h => if_neg (by omega)) ?_)
  refine P_putR (j := 15) (m' := 146132773392924213248) (P' := [(309, 146132773392924213248)]) (pc := 220) dX12_init_220 z_CLX12 (by decide) z_wX12_40 rfl rfl rfl (by decide) (by decide) (by decide) (by decide +kernel) (by decide +kernel) z_h0 (z_clr (by decide +kernel) (by decide +kernel)) ?_
  refine V_aload_n (v := vR 309) (pc := 223) dX12_init_223 rfl ?_ (Or.inl rfl)
  refine V_bipush (x := 14) (pc := 224) dX12_init_224 (by decide) ?_
  refine V_sipush (x := 200) (pc := 226) dX12_init_226 (by decide) ?_
  refine V_mnew2 (k := 375) (N1 := 14) (N2 := 200) (bc2 := 7268) (bs2 := 122631) (n2 := 389) (pc := 229) dX12_init_229 z_wX12_29 (by decide +kernel) rfl rfl (by decide) (by decide) (by decide +kernel) (by decide +kernel) (by decide +kernel) (by decide) (P_mnew (hz28.mono (m := 374) (Nat.le_of_ble_eq_true rfl)) (fun a h => if_neg (by omega)) ?_)
  refine P_putR (j := 16) (m' := 146132773392924147712) (P' := [(309, 146132773392924147712)]) (pc := 233) dX12_init_233 z_CLX12 (by decide) z_wX12_43 rfl rfl rfl (by decide) (by decide) (by decide) (by decide +kernel) (by decide +kernel) z_h0 (z_clr (by decide +kernel) (by decide +kernel)) ?_
  refine V_aload_n (v := vR 309) (pc := 236) dX12_init_236 rfl ?_ (Or.inl rfl)
  refine V_bipush (x := 14) (pc := 237) dX12_init_237 (by decide) ?_
  refine V_sipush (x := 200) (pc := 239) dX12_init_239 (by decide) ?_
  refine V_mnew2 (k := 390) (N1 := 14) (N2 := 200) (bc2 := 7253) (bs2 := 119817) (n2 := 404) (pc := 242) dX12_init_242 z_wX12_29 (by decide +kernel) rfl rfl (by decide) (by decide) (by decide +kernel) (by decide +kernel) (by decide +kernel) (by decide) (P_mnew (hz28.mono (m := 389) (Nat.le_of_ble_eq_true rfl)) (fun a h => if_neg (by omega)) ?_)
  refine P_putR (j := 17) (m' := 146132773392924016640) (P' := [(309, 146132773392924016640)]) (pc := 246) dX12_init_246 z_CLX12 (by decide) z_wX12_46 rfl rfl rfl (by decide) (by decide) (by decide) (by decide +kernel) (by decide +kernel) z_h0 (z_clr (by decide +kernel) (by decide +kernel)) ?_
  refine V_aload_n (v := vR 309) (pc := 249) dX12_init_249 rfl ?_ (Or.inl rfl)
  refine V_bipush (x := 14) (pc := 250) dX12_init_250 (by decide) ?_
  refine V_sipush (x := 200) (pc := 252) dX12_init_252 (by decide) ?_
  refine V_bipush (x := 20) (pc := 255) dX12_init_255 (by decide) ?_
  refine V_mnew3 (k := 405) (N1 := 14) (N2 := 200) (N3 := 20) (bc2 := 4438) (bs2 := 61003) (n2 := 3219) (pc := 257) dX12_init_257 z_wX12_49 (by decide +kernel) rfl rfl (by decide) (by decide) (by decide) (by decide +kernel) z_m3s2 z_m3s3 z_m3g1 z_m3g2 (by decide) (P_mnew (hz28.mono (m := 404) (Nat.le_of_ble_eq_true rfl)) (fun a h => if_neg (by omega)) ?_)
  refine P_putR (j := 18) (m' := 146132773392923754496) (P' := [(309, 146132773392923754496)]) (pc := 261) dX12_init_261 z_CLX12 (by decide) z_wX12_51 rfl rfl rfl (by decide) (by decide) (by decide) (by decide +kernel) (by decide +kernel) z_h0 (z_clr (by decide +kernel) (by decide +kernel)) ?_
  refine V_aload_n (v := vR 309) (pc := 264) dX12_init_264 rfl ?_ (Or.inl rfl)
  refine V_sipush (x := 200) (pc := 265) dX12_init_265 (by decide) ?_
  refine P_newa (k := 3220) (len := 200) (c := 100) (bc2 := 4437) (bs2 := 60803) (n2 := 3220) (ty := .int) (pc := 268) dX12_init_268 z_arint (by decide +kernel) rfl rfl (by decide +kernel) (by decide) (by decide) (hz28.mono (m := 3219) (Nat.le_of_ble_eq_true rfl)) rfl (Or.inl ⟨rfl, rfl⟩) ?_
  refine P_putR (j := 21) (m' := 146132773392921657344) (P' := [(309, 146132773392921657344)]) (pc := 270) dX12_init_270 z_CLX12 (by decide) z_wX12_54 rfl rfl rfl (by decide) (by decide) (by decide) (by decide +kernel) (by decide +kernel) z_h0 (z_clr (by decide +kernel) (by decide +kernel)) ?_
  refine V_aload_n (v := vR 309) (pc := 273) dX12_init_273 rfl ?_ (Or.inl rfl)
  refine V_sipush (x := 200) (pc := 274) dX12_init_274 (by decide) ?_
  refine P_newa (k := 3221) (len := 200) (c := 100) (bc2 := 4436) (bs2 := 60603) (n2 := 3221) (ty := .int) (pc := 277) dX12_init_277 z_arint (by decide +kernel) rfl rfl (by decide +kernel) (by decide) (by decide) (hz28.mono (m := 3220) (Nat.le_of_ble_eq_true rfl)) rfl (Or.inl ⟨rfl, rfl⟩) ?_
  refine P_putR (j := 22) (m' := 146132773392917463040) (P' := [(309, 146132773392917463040)]) (pc := 279) dX12_init_279 z_CLX12 (by decide) z_wX12_57 rfl rfl rfl (by decide) (by decide) (by decide) (by decide +kernel) (by decide +kernel) z_h0 (z_clr (by decide +kernel) (by decide +kernel)) ?_
  refine V_aload_n (v := vR 309) (pc := 282) dX12_init_282 rfl ?_ (Or.inl rfl)
  refine V_sipush (x := 200) (pc := 283) dX12_init_283 (by decide) ?_
  refine P_newa (k := 3222) (len := 200) (c := 100) (bc2 := 4435) (bs2 := 60403) (n2 := 3222) (ty := .int) (pc := 286) dX12_init_286 z_arint (by decide +kernel) rfl rfl (by decide +kernel) (by decide) (by decide) (hz28.mono (m := 3221) (Nat.le_of_ble_eq_true rfl)) rfl (Or.inl ⟨rfl, rfl⟩) ?_
  refine P_putR (j := 23) (m' := 146132773392909074432) (P' := [(309, 146132773392909074432)]) (pc := 288) dX12_init_288 z_CLX12 (by decide) z_wX12_60 rfl rfl rfl (by decide) (by decide) (by decide) (by decide +kernel) (by decide +kernel) z_h0 (z_clr (by decide +kernel) (by decide +kernel)) ?_
  refine V_aload_n (v := vR 309) (pc := 291) dX12_init_291 rfl ?_ (Or.inl rfl)
  refine V_sipush (x := 200) (pc := 292) dX12_init_292 (by decide) ?_
  refine P_newa (k := 3223) (len := 200) (c := 100) (bc2 := 4434) (bs2 := 60203) (n2 := 3223) (ty := .int) (pc := 295) dX12_init_295 z_arint (by decide +kernel) rfl rfl (by decide +kernel) (by decide) (by decide) (hz28.mono (m := 3222) (Nat.le_of_ble_eq_true rfl)) rfl (Or.inl ⟨rfl, rfl⟩) ?_
  refine P_putR (j := 24) (m' := 146132773392892297216) (P' := [(309, 146132773392892297216)]) (pc := 297) dX12_init_297 z_CLX12 (by decide) z_wX12_63 rfl rfl rfl (by decide) (by decide) (by decide) (by decide +kernel) (by decide +kernel) z_h0 (z_clr (by decide +kernel) (by decide +kernel)) ?_
  refine V_aload_n (v := vR 309) (pc := 300) dX12_init_300 rfl ?_ (Or.inl rfl)
  refine V_sipush (x := 200) (pc := 301) dX12_init_301 (by decide) ?_
  refine P_newa (k := 3224) (len := 200) (c := 100) (bc2 := 4433) (bs2 := 60003) (n2 := 3224) (ty := .int) (pc := 304) dX12_init_304 z_arint (by decide +kernel) rfl rfl (by decide +kernel) (by decide) (by decide) (hz28.mono (m := 3223) (Nat.le_of_ble_eq_true rfl)) rfl (Or.inl ⟨rfl, rfl⟩) ?_
  refine P_putR (j := 25) (m' := 146132773392858742784) (P' := [(309, 146132773392858742784)]) (pc := 306) dX12_init_306 z_CLX12 (by decide) z_wX12_66 rfl rfl rfl (by decide) (by decide) (by decide) (by decide +kernel) (by decide +kernel) z_h0 (z_clr (by decide +kernel) (by decide +kernel)) ?_
  refine V_aload_n (v := vR 309) (pc := 309) dX12_init_309 rfl ?_ (Or.inl rfl)
  refine V_sipush (x := 200) (pc := 310) dX12_init_310 (by decide) ?_
  refine P_newa (k := 3225) (len := 200) (c := 100) (bc2 := 4432) (bs2 := 59803) (n2 := 3225) (ty := .int) (pc := 313) dX12_init_313 z_arint (by decide +kernel) rfl rfl (by decide +kernel) (by decide) (by decide) (hz28.mono (m := 3224) (Nat.le_of_ble_eq_true rfl)) rfl (Or.inl ⟨rfl, rfl⟩) ?_
  refine P_putR (j := 26) (m' := 146132773392791633920) (P' := [(309, 146132773392791633920)]) (pc := 315) dX12_init_315 z_CLX12 (by decide) z_wX12_69 rfl rfl rfl (by decide) (by decide) (by decide) (by decide +kernel) (by decide +kernel) z_h0 (z_clr (by decide +kernel) (by decide +kernel)) ?_
  refine V_aload_n (v := vR 309) (pc := 318) dX12_init_318 rfl ?_ (Or.inl rfl)
  refine V_sipush (x := 200) (pc := 319) dX12_init_319 (by decide) ?_
  refine P_newa (k := 3226) (len := 200) (c := 100) (bc2 := 4431) (bs2 := 59603) (n2 := 3226) (ty := .int) (pc := 322) dX12_init_322 z_arint (by decide +kernel) rfl rfl (by decide +kernel) (by decide) (by decide) (hz28.mono (m := 3225) (Nat.le_of_ble_eq_true rfl)) rfl (Or.inl ⟨rfl, rfl⟩) ?_
  refine P_putR (j := 27) (m' := 146132773392657416192) (P' := [(309, 146132773392657416192)]) (pc := 324) dX12_init_324 z_CLX12 (by decide) z_wX12_72 rfl rfl rfl (by decide) (by decide) (by decide) (by decide +kernel) (by decide +kernel) z_h0 (z_clr (by decide +kernel) (by decide +kernel)) ?_
  refine V_aload_n (v := vR 309) (pc := 327) dX12_init_327 rfl ?_ (Or.inl rfl)
  refine V_sipush (x := 200) (pc := 328) dX12_init_328 (by decide) ?_
  refine P_newa (k := 3227) (len := 200) (c := 100) (bc2 := 4430) (bs2 := 59403) (n2 := 3227) (ty := .int) (pc := 331) dX12_init_331 z_arint (by decide +kernel) rfl rfl (by decide +kernel) (by decide) (by decide) (hz28.mono (m := 3226) (Nat.le_of_ble_eq_true rfl)) rfl (Or.inl ⟨rfl, rfl⟩) ?_
  refine P_putR (j := 28) (m' := 146132773392388980736) (P' := [(309, 146132773392388980736)]) (pc := 333) dX12_init_333 z_CLX12 (by decide) z_wX12_75 rfl rfl rfl (by decide) (by decide) (by decide) (by decide +kernel) (by decide +kernel) z_h0 (z_clr (by decide +kernel) (by decide +kernel)) ?_
  refine V_aload_n (v := vR 309) (pc := 336) dX12_init_336 rfl ?_ (Or.inl rfl)
  refine V_sipush (x := 200) (pc := 337) dX12_init_337 (by decide) ?_
  refine P_newa (k := 3228) (len := 200) (c := 100) (bc2 := 4429) (bs2 := 59203) (n2 := 3228) (ty := .int) (pc := 340) dX12_init_340 z_arint (by decide +kernel) rfl rfl (by decide +kernel) (by decide) (by decide) (hz28.mono (m := 3227) (Nat.le_of_ble_eq_true rfl)) rfl (Or.inl ⟨rfl, rfl⟩) ?_
  refine P_putR (j := 29) (m' := 146132773391852109824) (P' := [(309, 146132773391852109824)]) (pc := 342) dX12_init_342 z_CLX12 (by decide) z_wX12_78 rfl rfl rfl (by decide) (by decide) (by decide) (by decide +kernel) (by decide +kernel) z_h0 (z_clr (by decide +kernel) (by decide +kernel)) ?_
  refine V_aload_n (v := vR 309) (pc := 345) dX12_init_345 rfl ?_ (Or.inl rfl)
  refine V_sipush (x := 200) (pc := 346) dX12_init_346 (by decide) ?_
  refine P_newa (k := 3229) (len := 200) (c := 100) (bc2 := 4428) (bs2 := 59003) (n2 := 3229) (ty := .int) (pc := 349) dX12_init_349 z_arint (by decide +kernel) rfl rfl (by decide +kernel) (by decide) (by decide) (hz28.mono (m := 3228) (Nat.le_of_ble_eq_true rfl)) rfl (Or.inl ⟨rfl, rfl⟩) ?_
  refine P_putR (j := 30) (m' := 146132773390778368000) (P' := [(309, 146132773390778368000)]) (pc := 351) dX12_init_351 z_CLX12 (by decide) z_wX12_81 rfl rfl rfl (by decide) (by decide) (by decide) (by decide +kernel) (by decide +kernel) z_h0 (z_clr (by decide +kernel) (by decide +kernel)) ?_
  refine V_aload_n (v := vR 309) (pc := 354) dX12_init_354 rfl ?_ (Or.inl rfl)
  refine V_sipush (x := 200) (pc := 355) dX12_init_355 (by decide) ?_
  refine P_newa (k := 3230) (len := 200) (c := 100) (bc2 := 4427) (bs2 := 58803) (n2 := 3230) (ty := .int) (pc := 358) dX12_init_358 z_arint (by decide +kernel) rfl rfl (by decide +kernel) (by decide) (by decide) (hz28.mono (m := 3229) (Nat.le_of_ble_eq_true rfl)) rfl (Or.inl ⟨rfl, rfl⟩) ?_
  refine P_putR (j := 31) (m' := 146132773388630884352) (P' := [(309, 146132773388630884352)]) (pc := 360) dX12_init_360 z_CLX12 (by decide) z_wX12_84 rfl rfl rfl (by decide) (by decide) (by decide) (by decide +kernel) (by decide +kernel) z_h0 (z_clr (by decide +kernel) (by decide +kernel)) ?_
  refine V_aload_n (v := vR 309) (pc := 363) dX12_init_363 rfl ?_ (Or.inl rfl)
  refine V_sipush (x := 200) (pc := 364) dX12_init_364 (by decide) ?_
  refine P_newa (k := 3231) (len := 200) (c := 100) (bc2 := 4426) (bs2 := 58603) (n2 := 3231) (ty := .int) (pc := 367) dX12_init_367 z_arint (by decide +kernel) rfl rfl (by decide +kernel) (by decide) (by decide) (hz28.mono (m := 3230) (Nat.le_of_ble_eq_true rfl)) rfl (Or.inl ⟨rfl, rfl⟩) ?_
  refine P_putR (j := 32) (m' := 146132773384335917056) (P' := [(309, 146132773384335917056)]) (pc := 369) dX12_init_369 z_CLX12 (by decide) z_wX12_87 rfl rfl rfl (by decide) (by decide) (by decide) (by decide +kernel) (by decide +kernel) z_h0 (z_clr (by decide +kernel) (by decide +kernel)) ?_
  refine V_aload_n (v := vR 309) (pc := 372) dX12_init_372 rfl ?_ (Or.inl rfl)
  refine V_sipush (x := 200) (pc := 373) dX12_init_373 (by decide) ?_
  refine P_newa (k := 3232) (len := 200) (c := 100) (bc2 := 4425) (bs2 := 58403) (n2 := 3232) (ty := .int) (pc := 376) dX12_init_376 z_arint (by decide +kernel) rfl rfl (by decide +kernel) (by decide) (by decide) (hz28.mono (m := 3231) (Nat.le_of_ble_eq_true rfl)) rfl (Or.inl ⟨rfl, rfl⟩) ?_
  refine P_putR (j := 33) (m' := 146132773375745982464) (P' := [(309, 146132773375745982464)]) (pc := 378) dX12_init_378 z_CLX12 (by decide) z_wX12_90 rfl rfl rfl (by decide) (by decide) (by decide) (by decide +kernel) (by decide +kernel) z_h0 (z_clr (by decide +kernel) (by decide +kernel)) ?_
  refine V_aload_n (v := vR 309) (pc := 381) dX12_init_381 rfl ?_ (Or.inl rfl)
  refine V_sipush (x := 200) (pc := 382) dX12_init_382 (by decide) ?_
  refine P_newa (k := 3233) (len := 200) (c := 100) (bc2 := 4424) (bs2 := 58203) (n2 := 3233) (ty := .int) (pc := 385) dX12_init_385 z_arint (by decide +kernel) rfl rfl (by decide +kernel) (by decide) (by decide) (hz28.mono (m := 3232) (Nat.le_of_ble_eq_true rfl)) rfl (Or.inl ⟨rfl, rfl⟩) ?_
  refine P_putR (j := 34) (m' := 146132773358566113280) (P' := [(309, 146132773358566113280)]) (pc := 387) dX12_init_387 z_CLX12 (by decide) z_wX12_93 rfl rfl rfl (by decide) (by decide) (by decide) (by decide +kernel) (by decide +kernel) z_h0 (z_clr (by decide +kernel) (by decide +kernel)) ?_
  refine V_aload_n (v := vR 309) (pc := 390) dX12_init_390 rfl ?_ (Or.inl rfl)
  refine V_sipush (x := 200) (pc := 391) dX12_init_391 (by decide) ?_
  refine V_sipush (x := 200) (pc := 394) dX12_init_394 (by decide) ?_
  refine V_mnew2 (k := 3234) (N1 := 200) (N2 := 200) (bc2 := 4223) (bs2 := 18003) (n2 := 3434) (pc := 397) dX12_init_397 z_wX12_29 (by decide +kernel) rfl rfl (by decide) (by decide) (by decide +kernel) (by decide +kernel) (by decide +kernel) (by decide) (P_mnew (hz28.mono (m := 3233) (Nat.le_of_ble_eq_true rfl)) (fun a h => if_neg (by omega)) ?_)
  refine P_putR (j := 37) (m' := 146132773221127159808) (P' := [(309, 146132773221127159808)]) (pc := 401) dX12_init_401 z_CLX12 (by decide) z_wX12_96 rfl rfl rfl (by decide) (by decide) (by decide) (by decide +kernel) (by decide +kernel) z_h0 (z_clr (by decide +kernel) (by decide +kernel)) ?_
  refine V_aload_n (v := vR 309) (pc := 404) dX12_init_404 rfl ?_ (Or.inl rfl)
  refine V_sipush (x := 200) (pc := 405) dX12_init_405 (by decide) ?_
  refine P_newa (k := 3435) (len := 200) (c := 100) (bc2 := 4222) (bs2 := 17803) (n2 := 3435) (ty := .int) (pc := 408) dX12_init_408 z_arint (by decide +kernel) rfl rfl (by decide +kernel) (by decide) (by decide) (hz28.mono (m := 3434) (Nat.le_of_ble_eq_true rfl)) rfl (Or.inl ⟨rfl, rfl⟩) ?_
  refine P_putR (j := 40) (m' := 146132772121615532032) (P' := [(309, 146132772121615532032)]) (pc := 410) dX12_init_410 z_CLX12 (by decide) z_wX12_99 rfl rfl rfl (by decide) (by decide) (by decide) (by decide +kernel) (by decide +kernel) z_h0 (z_clr (by decide +kernel) (by decide +kernel)) ?_
  refine V_aload_n (v := vR 309) (pc := 413) dX12_init_413 rfl ?_ (Or.inl rfl)
  refine V_sipush (x := 200) (pc := 414) dX12_init_414 (by decide) ?_
  refine P_newa (k := 3436) (len := 200) (c := 100) (bc2 := 4221) (bs2 := 17603) (n2 := 3436) (ty := .int) (pc := 417) dX12_init_417 z_arint (by decide +kernel) rfl rfl (by decide +kernel) (by decide) (by decide) (hz28.mono (m := 3435) (Nat.le_of_ble_eq_true rfl)) rfl (Or.inl ⟨rfl, rfl⟩) ?_
  refine P_putR (j := 41) (m' := 146132769922592276480) (P' := [(309, 146132769922592276480)]) (pc := 419) dX12_init_419 z_CLX12 (by decide) z_wX12_102 rfl rfl rfl (by decide) (by decide) (by decide) (by decide +kernel) (by decide +kernel) z_h0 (z_clr (by decide +kernel) (by decide +kernel)) ?_
  refine V_aload_n (v := vR 309) (pc := 422) dX12_init_422 rfl ?_ (Or.inl rfl)
  refine V_sipush (x := 200) (pc := 423) dX12_init_423 (by decide) ?_
  refine P_newa (k := 3437) (len := 200) (c := 102) (bc2 := 4220) (bs2 := 17403) (n2 := 3437) (ty := .boolean) (pc := 426) dX12_init_426 z_arboolean (by decide +kernel) rfl rfl (by decide +kernel) (by decide) (by decide) (hz28.mono (m := 3436) (Nat.le_of_ble_eq_true rfl)) rfl (Or.inr (Or.inr ⟨rfl, rfl⟩)) ?_
  refine P_putR (j := 42) (m' := 146132765524545765376) (P' := [(309, 146132765524545765376)]) (pc := 428) dX12_init_428 z_CLX12 (by decide) z_wX12_105 rfl rfl rfl (by decide) (by decide) (by decide) (by decide +kernel) (by decide +kernel) z_h0 (z_clr (by decide +kernel) (by decide +kernel)) ?_
  refine V_aload_n (v := vR 309) (pc := 431) dX12_init_431 rfl ?_ (Or.inl rfl)
  refine V_sipush (x := 201) (pc := 432) dX12_init_432 (by decide) ?_
  refine P_newa (k := 3438) (len := 201) (c := 100) (bc2 := 4219) (bs2 := 17202) (n2 := 3438) (ty := .int) (pc := 435) dX12_init_435 z_arint (by decide +kernel) rfl rfl (by decide +kernel) (by decide) (by decide) (hz28.mono (m := 3437) (Nat.le_of_ble_eq_true rfl)) rfl (Or.inl ⟨rfl, rfl⟩) ?_
  refine P_putR (j := 45) (m' := 146132730340173676544) (P' := [(309, 146132730340173676544)]) (pc := 437) dX12_init_437 z_CLX12 (by decide) z_wX12_109 rfl rfl rfl (by decide) (by decide) (by decide) (by decide +kernel) (by decide +kernel) z_h0 (z_clr (by decide +kernel) (by decide +kernel)) ?_
  refine V_aload_n (v := vR 309) (pc := 440) dX12_init_440 rfl ?_ (Or.inl rfl)
  refine V_sipush (x := 201) (pc := 441) dX12_init_441 (by decide) ?_
  refine P_newa (k := 3439) (len := 201) (c := 101) (bc2 := 4218) (bs2 := 17001) (n2 := 3439) (ty := .long) (pc := 444) dX12_init_444 z_arlong (by decide +kernel) rfl rfl (by decide +kernel) (by decide) (by decide) (hz28.mono (m := 3438) (Nat.le_of_ble_eq_true rfl)) rfl (Or.inr (Or.inl ⟨rfl, rfl⟩)) ?_
  refine P_putR (j := 46) (m' := 146132659971429498880) (P' := [(309, 146132659971429498880)]) (pc := 446) dX12_init_446 z_CLX12 (by decide) z_wX12_112 rfl rfl rfl (by decide) (by decide) (by decide) (by decide +kernel) (by decide +kernel) z_h0 (z_clr (by decide +kernel) (by decide +kernel)) ?_
  refine V_aload_n (v := vR 309) (pc := 449) dX12_init_449 rfl ?_ (Or.inl rfl)
  refine V_sipush (x := 200) (pc := 450) dX12_init_450 (by decide) ?_
  refine P_newa (k := 3440) (len := 200) (c := 100) (bc2 := 4217) (bs2 := 16801) (n2 := 3440) (ty := .int) (pc := 453) dX12_init_453 z_arint (by decide +kernel) rfl rfl (by decide +kernel) (by decide) (by decide) (hz28.mono (m := 3439) (Nat.le_of_ble_eq_true rfl)) rfl (Or.inl ⟨rfl, rfl⟩) ?_
  refine P_putR (j := 47) (m' := 146132519233941143552) (P' := [(309, 146132519233941143552)]) (pc := 455) dX12_init_455 z_CLX12 (by decide) z_wX12_116 rfl rfl rfl (by decide) (by decide) (by decide) (by decide +kernel) (by decide +kernel) z_h0 (z_clr (by decide +kernel) (by decide +kernel)) ?_
  refine V_aload_n (v := vR 309) (pc := 458) dX12_init_458 rfl ?_ (Or.inl rfl)
  refine V_sipush (x := 200) (pc := 459) dX12_init_459 (by decide) ?_
  refine P_newa (k := 3441) (len := 200) (c := 100) (bc2 := 4216) (bs2 := 16601) (n2 := 3441) (ty := .int) (pc := 462) dX12_init_462 z_arint (by decide +kernel) rfl rfl (by decide +kernel) (by decide) (by decide) (hz28.mono (m := 3440) (Nat.le_of_ble_eq_true rfl)) rfl (Or.inl ⟨rfl, rfl⟩) ?_
  refine P_putR (j := 48) (m' := 146132237758964432896) (P' := [(309, 146132237758964432896)]) (pc := 464) dX12_init_464 z_CLX12 (by decide) z_wX12_119 rfl rfl rfl (by decide) (by decide) (by decide) (by decide +kernel) (by decide +kernel) z_h0 (z_clr (by decide +kernel) (by decide +kernel)) ?_
  refine V_aload_n (v := vR 309) (pc := 467) dX12_init_467 rfl ?_ (Or.inl rfl)
  refine V_sipush (x := 200) (pc := 468) dX12_init_468 (by decide) ?_
  refine P_newa (k := 3442) (len := 200) (c := 100) (bc2 := 4215) (bs2 := 16401) (n2 := 3442) (ty := .int) (pc := 471) dX12_init_471 z_arint (by decide +kernel) rfl rfl (by decide +kernel) (by decide) (by decide) (hz28.mono (m := 3441) (Nat.le_of_ble_eq_true rfl)) rfl (Or.inl ⟨rfl, rfl⟩) ?_
  refine P_putR (j := 49) (m' := 146131674809011011584) (P' := [(309, 146131674809011011584)]) (pc := 473) dX12_init_473 z_CLX12 (by decide) z_wX12_122 rfl rfl rfl (by decide) (by decide) (by decide) (by decide +kernel) (by decide +kernel) z_h0 (z_clr (by decide +kernel) (by decide +kernel)) ?_
  refine V_aload_n (v := vR 309) (pc := 476) dX12_init_476 rfl ?_ (Or.inl rfl)
  refine V_sipush (x := 200) (pc := 477) dX12_init_477 (by decide) ?_
  refine P_newa (k := 3443) (len := 200) (c := 100) (bc2 := 4214) (bs2 := 16201) (n2 := 3443) (ty := .int) (pc := 480) dX12_init_480 z_arint (by decide +kernel) rfl rfl (by decide +kernel) (by decide) (by decide) (hz28.mono (m := 3442) (Nat.le_of_ble_eq_true rfl)) rfl (Or.inl ⟨rfl, rfl⟩) ?_
  refine P_putR (j := 50) (m' := 146130548909104168960) (P' := [(309, 146130548909104168960)]) (pc := 482) dX12_init_482 z_CLX12 (by decide) z_wX12_125 rfl rfl rfl (by decide) (by decide) (by decide) (by decide +kernel) (by decide +kernel) z_h0 (z_clr (by decide +kernel) (by decide +kernel)) ?_
  refine V_aload_n (v := vR 309) (pc := 485) dX12_init_485 rfl ?_ (Or.inl rfl)
  refine V_sipush (x := 200) (pc := 486) dX12_init_486 (by decide) ?_
  refine P_newa (k := 3444) (len := 200) (c := 100) (bc2 := 4213) (bs2 := 16001) (n2 := 3444) (ty := .int) (pc := 489) dX12_init_489 z_arint (by decide +kernel) rfl rfl (by decide +kernel) (by decide) (by decide) (hz28.mono (m := 3443) (Nat.le_of_ble_eq_true rfl)) rfl (Or.inl ⟨rfl, rfl⟩) ?_
  refine P_putR (j := 51) (m' := 146128297109290483712) (P' := [(309, 146128297109290483712)]) (pc := 491) dX12_init_491 z_CLX12 (by decide) z_wX12_128 rfl rfl rfl (by decide) (by decide) (by decide) (by decide +kernel) (by decide +kernel) z_h0 (z_clr (by decide +kernel) (by decide +kernel)) ?_
  refine V_aload_n (v := vR 309) (pc := 494) dX12_init_494 rfl ?_ (Or.inl rfl)
  refine V_sipush (x := 200) (pc := 495) dX12_init_495 (by decide) ?_
  refine P_newa (k := 3445) (len := 200) (c := 100) (bc2 := 4212) (bs2 := 15801) (n2 := 3445) (ty := .int) (pc := 498) dX12_init_498 z_arint (by decide +kernel) rfl rfl (by decide +kernel) (by decide) (by decide) (hz28.mono (m := 3444) (Nat.le_of_ble_eq_true rfl)) rfl (Or.inl ⟨rfl, rfl⟩) ?_
  refine P_putR (j := 52) (m' := 146123793509663113216) (P' := [(309, 146123793509663113216)]) (pc := 500) dX12_init_500 z_CLX12 (by decide) z_wX12_131 rfl rfl rfl (by decide) (by decide) (by decide) (by decide +kernel) (by decide +kernel) z_h0 (z_clr (by decide +kernel) (by decide +kernel)) ?_
  refine V_aload_n (v := vR 309) (pc := 503) dX12_init_503 rfl ?_ (Or.inl rfl)
  refine V_sipush (x := 200) (pc := 504) dX12_init_504 (by decide) ?_
  refine P_newa (k := 3446) (len := 200) (c := 100) (bc2 := 4211) (bs2 := 15601) (n2 := 3446) (ty := .int) (pc := 507) dX12_init_507 z_arint (by decide +kernel) rfl rfl (by decide +kernel) (by decide) (by decide) (hz28.mono (m := 3445) (Nat.le_of_ble_eq_true rfl)) rfl (Or.inl ⟨rfl, rfl⟩) ?_
  refine P_putR (j := 53) (m' := 146114786310408372224) (P' := [(309, 146114786310408372224)]) (pc := 509) dX12_init_509 z_CLX12 (by decide) z_wX12_134 rfl rfl rfl (by decide) (by decide) (by decide) (by decide +kernel) (by decide +kernel) z_h0 (z_clr (by decide +kernel) (by decide +kernel)) ?_
  refine V_aload_n (v := vR 309) (pc := 512) dX12_init_512 rfl ?_ (Or.inl rfl)
  refine V_sipush (x := 200) (pc := 513) dX12_init_513 (by decide) ?_
  refine P_newa (k := 3447) (len := 200) (c := 100) (bc2 := 4210) (bs2 := 15401) (n2 := 3447) (ty := .int) (pc := 516) dX12_init_516 z_arint (by decide +kernel) rfl rfl (by decide +kernel) (by decide) (by decide) (hz28.mono (m := 3446) (Nat.le_of_ble_eq_true rfl)) rfl (Or.inl ⟨rfl, rfl⟩) ?_
  refine P_putR (j := 54) (m' := 146096771911898890240) (P' := [(309, 146096771911898890240)]) (pc := 518) dX12_init_518 z_CLX12 (by decide) z_wX12_137 rfl rfl rfl (by decide) (by decide) (by decide) (by decide +kernel) (by decide +kernel) z_h0 (z_clr (by decide +kernel) (by decide +kernel)) ?_
  refine V_aload_n (v := vR 309) (pc := 521) dX12_init_521 rfl ?_ (Or.inl rfl)
  refine V_sipush (x := 200) (pc := 522) dX12_init_522 (by decide) ?_
  refine P_newa (k := 3448) (len := 200) (c := 100) (bc2 := 4209) (bs2 := 15201) (n2 := 3448) (ty := .int) (pc := 525) dX12_init_525 z_arint (by decide +kernel) rfl rfl (by decide +kernel) (by decide) (by decide) (hz28.mono (m := 3447) (Nat.le_of_ble_eq_true rfl)) rfl (Or.inl ⟨rfl, rfl⟩) ?_
  refine P_putR (j := 55) (m' := 146060743114879926272) (P' := [(309, 146060743114879926272)]) (pc := 527) dX12_init_527 z_CLX12 (by decide) z_wX12_140 rfl rfl rfl (by decide) (by decide) (by decide) (by decide +kernel) (by decide +kernel) z_h0 (z_clr (by decide +kernel) (by decide +kernel)) ?_
  refine V_aload_n (v := vR 309) (pc := 530) dX12_init_530 rfl ?_ (Or.inl rfl)
  refine V_sipush (x := 200) (pc := 531) dX12_init_531 (by decide) ?_
  refine P_newa (k := 3449) (len := 200) (c := 100) (bc2 := 4208) (bs2 := 15001) (n2 := 3449) (ty := .int) (pc := 534) dX12_init_534 z_arint (by decide +kernel) rfl rfl (by decide +kernel) (by decide) (by decide) (hz28.mono (m := 3448) (Nat.le_of_ble_eq_true rfl)) rfl (Or.inl ⟨rfl, rfl⟩) ?_
  refine P_putR (j := 56) (m' := 145988685520841998336) (P' := [(309, 145988685520841998336)]) (pc := 536) dX12_init_536 z_CLX12 (by decide) z_wX12_143 rfl rfl rfl (by decide) (by decide) (by decide) (by decide +kernel) (by decide +kernel) z_h0 (z_clr (by decide +kernel) (by decide +kernel)) ?_
  refine V_aload_n (v := vR 309) (pc := 539) dX12_init_539 rfl ?_ (Or.inl rfl)
  refine V_sipush (x := 200) (pc := 540) dX12_init_540 (by decide) ?_
  refine P_newa (k := 3450) (len := 200) (c := 100) (bc2 := 4207) (bs2 := 14801) (n2 := 3450) (ty := .int) (pc := 543) dX12_init_543 z_arint (by decide +kernel) rfl rfl (by decide +kernel) (by decide) (by decide) (hz28.mono (m := 3449) (Nat.le_of_ble_eq_true rfl)) rfl (Or.inl ⟨rfl, rfl⟩) ?_
  refine P_putR (j := 57) (m' := 145844570332766142464) (P' := [(309, 145844570332766142464)]) (pc := 545) dX12_init_545 z_CLX12 (by decide) z_wX12_146 rfl rfl rfl (by decide) (by decide) (by decide) (by decide +kernel) (by decide +kernel) z_h0 (z_clr (by decide +kernel) (by decide +kernel)) ?_
  refine V_aload_n (v := vR 309) (pc := 548) dX12_init_548 rfl ?_ (Or.inl rfl)
  refine V_sipush (x := 200) (pc := 549) dX12_init_549 (by decide) ?_
  refine V_bipush (x := 8) (pc := 552) dX12_init_552 (by decide) ?_
  refine V_mnew2 (k := 3451) (N1 := 200) (N2 := 8) (bc2 := 4006) (bs2 := 13001) (n2 := 3651) (pc := 554) dX12_init_554 z_wX12_29 (by decide +kernel) rfl rfl (by decide) (by decide) (by decide +kernel) (by decide +kernel) (by decide +kernel) (by decide) (P_mnew (hz28.mono (m := 3450) (Nat.le_of_ble_eq_true rfl)) (fun a h => if_neg (by omega)) ?_)
  refine P_putR (j := 59) (m' := 145268109580462718976) (P' := [(309, 145268109580462718976)]) (pc := 558) dX12_init_558 z_CLX12 (by decide) z_wX12_149 rfl rfl rfl (by decide) (by decide) (by decide) (by decide +kernel) (by decide +kernel) z_h0 (z_clr (by decide +kernel) (by decide +kernel)) ?_
  refine V_aload_n (v := vR 309) (pc := 561) dX12_init_561 rfl ?_ (Or.inl rfl)
  refine V_sipush (x := 4000) (pc := 562) dX12_init_562 (by decide) ?_
  refine V_iconst (x := 2) (pc := 565) dX12_init_565 (by decide) ?_
  refine V_mnew2 (k := 3652) (N1 := 4000) (N2 := 2) (bc2 := 5) (bs2 := 1001) (n2 := 7652) (pc := 566) dX12_init_566 z_wX12_29 (by decide +kernel) rfl rfl (by decide) (by decide) (by decide +kernel) z_thg z_thr (by decide) (P_mnew (hz28.mono (m := 3651) (Nat.le_of_ble_eq_true rfl)) (fun a h => if_neg (by omega)) ?_)
  refine P_putR (j := 61) (m' := 142962266571249025024) (P' := [(309, 142962266571249025024)]) (pc := 570) dX12_init_570 z_CLX12 (by decide) z_wX12_152 rfl rfl rfl (by decide) (by decide) (by decide) (by decide +kernel) (by decide +kernel) z_h0 (z_clr (by decide +kernel) (by decide +kernel)) ?_
  refine V_aload_n (v := vR 309) (pc := 573) dX12_init_573 rfl ?_ (Or.inl rfl)
  refine V_sipush (x := 201) (pc := 574) dX12_init_574 (by decide) ?_
  refine P_newa (k := 7653) (len := 201) (c := 100) (bc2 := 4) (bs2 := 800) (n2 := 7653) (ty := .int) (pc := 577) dX12_init_577 z_arint (by decide +kernel) rfl rfl (by decide +kernel) (by decide) (by decide) (hz28.mono (m := 7652) (Nat.le_of_ble_eq_true rfl)) rfl (Or.inl ⟨rfl, rfl⟩) ?_
  refine P_putR (j := 62) (m' := 138350580552821637120) (P' := [(309, 138350580552821637120)]) (pc := 579) dX12_init_579 z_CLX12 (by decide) z_wX12_155 rfl rfl rfl (by decide) (by decide) (by decide) (by decide +kernel) (by decide +kernel) z_h0 (z_clr (by decide +kernel) (by decide +kernel)) ?_
  refine V_aload_n (v := vR 309) (pc := 582) dX12_init_582 rfl ?_ (Or.inl rfl)
  refine V_sipush (x := 200) (pc := 583) dX12_init_583 (by decide) ?_
  refine P_newa (k := 7654) (len := 200) (c := 100) (bc2 := 3) (bs2 := 600) (n2 := 7654) (ty := .int) (pc := 586) dX12_init_586 z_arint (by decide +kernel) rfl rfl (by decide +kernel) (by decide) (by decide) (hz28.mono (m := 7653) (Nat.le_of_ble_eq_true rfl)) rfl (Or.inl ⟨rfl, rfl⟩) ?_
  refine P_putR (j := 63) (m' := 129127208515966861312) (P' := [(309, 129127208515966861312)]) (pc := 588) dX12_init_588 z_CLX12 (by decide) z_wX12_158 rfl rfl rfl (by decide) (by decide) (by decide) (by decide +kernel) (by decide +kernel) z_h0 (z_clr (by decide +kernel) (by decide +kernel)) ?_
  refine V_aload_n (v := vR 309) (pc := 591) dX12_init_591 rfl ?_ (Or.inl rfl)
  refine V_sipush (x := 200) (pc := 592) dX12_init_592 (by decide) ?_
  refine P_newa (k := 7655) (len := 200) (c := 100) (bc2 := 2) (bs2 := 400) (n2 := 7655) (ty := .int) (pc := 595) dX12_init_595 z_arint (by decide +kernel) rfl rfl (by decide +kernel) (by decide) (by decide) (hz28.mono (m := 7654) (Nat.le_of_ble_eq_true rfl)) rfl (Or.inl ⟨rfl, rfl⟩) ?_
  refine P_putR (j := 64) (m' := 110680464442257309696) (P' := [(309, 110680464442257309696)]) (pc := 597) dX12_init_597 z_CLX12 (by decide) z_wX12_161 rfl rfl rfl (by decide) (by decide) (by decide) (by decide +kernel) (by decide +kernel) z_h0 (z_clr (by decide +kernel) (by decide +kernel)) ?_
  refine V_aload_n (v := vR 309) (pc := 600) dX12_init_600 rfl ?_ (Or.inl rfl)
  refine V_sipush (x := 200) (pc := 601) dX12_init_601 (by decide) ?_
  refine P_newa (k := 7656) (len := 200) (c := 100) (bc2 := 1) (bs2 := 200) (n2 := 7656) (ty := .int) (pc := 604) dX12_init_604 z_arint (by decide +kernel) rfl rfl (by decide +kernel) (by decide) (by decide) (hz28.mono (m := 7655) (Nat.le_of_ble_eq_true rfl)) rfl (Or.inl ⟨rfl, rfl⟩) ?_
  refine P_putR (j := 65) (m' := 73786976294838206464) (P' := [(309, 73786976294838206464)]) (pc := 606) dX12_init_606 z_CLX12 (by decide) z_wX12_164 rfl rfl rfl (by decide) (by decide) (by decide) (by decide +kernel) (by decide +kernel) z_h0 (z_clr (by decide +kernel) (by decide +kernel)) ?_
  refine V_aload_n (v := vR 309) (pc := 609) dX12_init_609 rfl ?_ (Or.inl rfl)
  refine V_sipush (x := 200) (pc := 610) dX12_init_610 (by decide) ?_
  refine P_newa (k := 7657) (len := 200) (c := 100) (bc2 := 0) (bs2 := 0) (n2 := 7657) (ty := .int) (pc := 613) dX12_init_613 z_arint (by decide +kernel) rfl rfl (by decide +kernel) (by decide) (by decide) (hz28.mono (m := 7656) (Nat.le_of_ble_eq_true rfl)) rfl (Or.inl ⟨rfl, rfl⟩) ?_
  refine P_putR (j := 66) (m' := 0) (P' := [(309, 0)]) (pc := 615) dX12_init_615 z_CLX12 (by decide) z_wX12_167 rfl rfl rfl (by decide) (by decide) (by decide) (by decide +kernel) (by decide +kernel) z_h0 (z_clr (by decide +kernel) (by decide +kernel)) ?_
  refine P_pop (by decide +kernel) ?_
  exact P_ret (pc := 618) dX12_init_618 rfl
