/-! SAFETY, 4: the bounds that are wanted, the instances (by program, wip/tool/mksafe.py) -/
theorem bd_309_0 : z_bd 309 0 = ((-2147483648), 2147483647) := by decide +kernel
theorem bd_309_19 : z_bd 309 19 = (0, 12) := by decide +kernel
theorem bd_309_2 : z_bd 309 2 = (0, 300) := by decide +kernel
theorem bd_309_20 : z_bd 309 20 = (0, 200) := by decide +kernel
theorem bd_309_3 : z_bd 309 3 = (0, 300) := by decide +kernel
theorem bd_309_35 : z_bd 309 35 = ((-2147483648), 2147483647) := by decide +kernel
theorem bd_309_36 : z_bd 309 36 = ((-2147483648), 2147483647) := by decide +kernel
theorem bd_309_38 : z_bd 309 38 = ((-2147483648), 2147483647) := by decide +kernel
theorem bd_309_39 : z_bd 309 39 = ((-2147483648), 2147483647) := by decide +kernel
theorem bd_309_4 : z_bd 309 4 = (0, 302) := by decide +kernel
theorem bd_309_43 : z_bd 309 43 = ((-2147483648), 2147483647) := by decide +kernel
theorem bd_309_44 : z_bd 309 44 = (0, 200) := by decide +kernel
theorem bd_309_5 : z_bd 309 5 = ((-2147483648), 2147483647) := by decide +kernel
theorem bd_309_58 : z_bd 309 58 = (0, 200) := by decide +kernel
theorem bd_309_6 : z_bd 309 6 = ((-2147483648), 2147483647) := by decide +kernel
theorem bd_309_60 : z_bd 309 60 = (0, 4000) := by decide +kernel
theorem bd_309_7 : z_bd 309 7 = ((-2147483648), 2147483647) := by decide +kernel
theorem bdr_310 (j : Int) : z_bd 310 j = ((-2147483648), 2147483647) := by
  unfold z_bd
  repeat (first | rw [if_neg (by omega)] | rw [if_pos (by omega)])
  try rfl
theorem bdr_311 (j : Int) : z_bd 311 j = ((-2147483648), 2147483647) := by
  unfold z_bd
  repeat (first | rw [if_neg (by omega)] | rw [if_pos (by omega)])
  try rfl
theorem bdr_312 (j : Int) : z_bd 312 j = ((-2147483648), 2147483647) := by
  unfold z_bd
  repeat (first | rw [if_neg (by omega)] | rw [if_pos (by omega)])
  try rfl
theorem bdr_313 (j : Int) : z_bd 313 j = ((-2147483648), 2147483647) := by
  unfold z_bd
  repeat (first | rw [if_neg (by omega)] | rw [if_pos (by omega)])
  try rfl
theorem bdr_314 (j : Int) : z_bd 314 j = ((-2147483648), 2147483647) := by
  unfold z_bd
  repeat (first | rw [if_neg (by omega)] | rw [if_pos (by omega)])
  try rfl
theorem bd_316_0 : z_bd 316 0 = (0, 200) := by decide +kernel
theorem bd_316_1 : z_bd 316 1 = (0, 200) := by decide +kernel
theorem bdr_3220 (j : Int) : z_bd 3220 j = ((-2147483648), 2147483647) := by
  unfold z_bd
  repeat (first | rw [if_neg (by omega)] | rw [if_pos (by omega)])
  try rfl
theorem bdr_3221 (j : Int) : z_bd 3221 j = (0, 199) := by
  unfold z_bd
  repeat (first | rw [if_neg (by omega)] | rw [if_pos (by omega)])
  try rfl
theorem bdr_3222 (j : Int) : z_bd 3222 j = (0, 200) := by
  unfold z_bd
  repeat (first | rw [if_neg (by omega)] | rw [if_pos (by omega)])
  try rfl
theorem bdr_3223 (j : Int) : z_bd 3223 j = (0, 199) := by
  unfold z_bd
  repeat (first | rw [if_neg (by omega)] | rw [if_pos (by omega)])
  try rfl
theorem bdr_3224 (j : Int) : z_bd 3224 j = ((-2147483648), 2147483647) := by
  unfold z_bd
  repeat (first | rw [if_neg (by omega)] | rw [if_pos (by omega)])
  try rfl
theorem bdr_3225 (j : Int) : z_bd 3225 j = ((-2147483648), 2147483647) := by
  unfold z_bd
  repeat (first | rw [if_neg (by omega)] | rw [if_pos (by omega)])
  try rfl
theorem bdr_3226 (j : Int) : z_bd 3226 j = ((-2147483648), 2147483647) := by
  unfold z_bd
  repeat (first | rw [if_neg (by omega)] | rw [if_pos (by omega)])
  try rfl
theorem bdr_3227 (j : Int) : z_bd 3227 j = ((-2147483648), 2147483647) := by
  unfold z_bd
  repeat (first | rw [if_neg (by omega)] | rw [if_pos (by omega)])
  try rfl
theorem bdr_3228 (j : Int) : z_bd 3228 j = ((-2147483648), 2147483647) := by
  unfold z_bd
  repeat (first | rw [if_neg (by omega)] | rw [if_pos (by omega)])
  try rfl
theorem bdr_3229 (j : Int) : z_bd 3229 j = (0, 200) := by
  unfold z_bd
  repeat (first | rw [if_neg (by omega)] | rw [if_pos (by omega)])
  try rfl
theorem bdr_3230 (j : Int) : z_bd 3230 j = ((-2147483648), 2147483647) := by
  unfold z_bd
  repeat (first | rw [if_neg (by omega)] | rw [if_pos (by omega)])
  try rfl
theorem bdr_3231 (j : Int) : z_bd 3231 j = ((-2147483648), 2147483647) := by
  unfold z_bd
  repeat (first | rw [if_neg (by omega)] | rw [if_pos (by omega)])
  try rfl
theorem bdr_3232 (j : Int) : z_bd 3232 j = ((-2147483648), 2147483647) := by
  unfold z_bd
  repeat (first | rw [if_neg (by omega)] | rw [if_pos (by omega)])
  try rfl
theorem bdr_3233 (j : Int) : z_bd 3233 j = ((-2147483648), 2147483647) := by
  unfold z_bd
  repeat (first | rw [if_neg (by omega)] | rw [if_pos (by omega)])
  try rfl
theorem bd_329_0 : z_bd 329 0 = (0, 200) := by decide +kernel
theorem bd_329_1 : z_bd 329 1 = (0, 200) := by decide +kernel
theorem bd_329_2 : z_bd 329 2 = ((-2147483648), 2147483647) := by decide +kernel
theorem bdr_331 (j : Int) : z_bd 331 j = ((-2147483648), 2147483647) := by
  unfold z_bd
  repeat (first | rw [if_neg (by omega)] | rw [if_pos (by omega)])
  try rfl
theorem bdr_3435 (j : Int) : z_bd 3435 j = ((-2147483648), 2147483647) := by
  unfold z_bd
  repeat (first | rw [if_neg (by omega)] | rw [if_pos (by omega)])
  try rfl
theorem bdr_3436 (j : Int) : z_bd 3436 j = (0, 199) := by
  unfold z_bd
  repeat (first | rw [if_neg (by omega)] | rw [if_pos (by omega)])
  try rfl
theorem bdr_3437 (j : Int) : z_bd 3437 j = ((-2147483648), 2147483647) := by
  unfold z_bd
  repeat (first | rw [if_neg (by omega)] | rw [if_pos (by omega)])
  try rfl
theorem bdr_3438 (j : Int) : z_bd 3438 j = (0, 200) := by
  unfold z_bd
  repeat (first | rw [if_neg (by omega)] | rw [if_pos (by omega)])
  try rfl
theorem bdr_3439 (j : Int) : z_bd 3439 j = ((-9223372036854775808), 9223372036854775807) := by
  unfold z_bd
  repeat (first | rw [if_neg (by omega)] | rw [if_pos (by omega)])
  try rfl
theorem bdr_344 (j : Int) : z_bd 344 j = ((-2147483648), 2147483647) := by
  unfold z_bd
  repeat (first | rw [if_neg (by omega)] | rw [if_pos (by omega)])
  try rfl
theorem bdr_3440 (j : Int) : z_bd 3440 j = (0, 199) := by
  unfold z_bd
  repeat (first | rw [if_neg (by omega)] | rw [if_pos (by omega)])
  try rfl
theorem bdr_3441 (j : Int) : z_bd 3441 j = ((-2147483648), 2147483647) := by
  unfold z_bd
  repeat (first | rw [if_neg (by omega)] | rw [if_pos (by omega)])
  try rfl
theorem bdr_3442 (j : Int) : z_bd 3442 j = ((-2147483648), 2147483647) := by
  unfold z_bd
  repeat (first | rw [if_neg (by omega)] | rw [if_pos (by omega)])
  try rfl
theorem bdr_3443 (j : Int) : z_bd 3443 j = ((-2147483648), 2147483647) := by
  unfold z_bd
  repeat (first | rw [if_neg (by omega)] | rw [if_pos (by omega)])
  try rfl
theorem bdr_3444 (j : Int) : z_bd 3444 j = ((-2147483648), 2147483647) := by
  unfold z_bd
  repeat (first | rw [if_neg (by omega)] | rw [if_pos (by omega)])
  try rfl
theorem bdr_3445 (j : Int) : z_bd 3445 j = ((-2147483648), 2147483647) := by
  unfold z_bd
  repeat (first | rw [if_neg (by omega)] | rw [if_pos (by omega)])
  try rfl
theorem bdr_3446 (j : Int) : z_bd 3446 j = ((-2147483648), 2147483647) := by
  unfold z_bd
  repeat (first | rw [if_neg (by omega)] | rw [if_pos (by omega)])
  try rfl
theorem bdr_3447 (j : Int) : z_bd 3447 j = ((-2147483648), 2147483647) := by
  unfold z_bd
  repeat (first | rw [if_neg (by omega)] | rw [if_pos (by omega)])
  try rfl
theorem bdr_3448 (j : Int) : z_bd 3448 j = ((-2147483648), 2147483647) := by
  unfold z_bd
  repeat (first | rw [if_neg (by omega)] | rw [if_pos (by omega)])
  try rfl
theorem bdr_3449 (j : Int) : z_bd 3449 j = ((-2147483648), 2147483647) := by
  unfold z_bd
  repeat (first | rw [if_neg (by omega)] | rw [if_pos (by omega)])
  try rfl
theorem bdr_3450 (j : Int) : z_bd 3450 j = ((-2147483648), 2147483647) := by
  unfold z_bd
  repeat (first | rw [if_neg (by omega)] | rw [if_pos (by omega)])
  try rfl
theorem bdr_346 (j : Int) : z_bd 346 j = ((-2147483648), 2147483647) := by
  unfold z_bd
  repeat (first | rw [if_neg (by omega)] | rw [if_pos (by omega)])
  try rfl
theorem bdr_359 (j : Int) : z_bd 359 j = ((-2147483648), 2147483647) := by
  unfold z_bd
  repeat (first | rw [if_neg (by omega)] | rw [if_pos (by omega)])
  try rfl
theorem bdr_361 (j : Int) : z_bd 361 j = ((-1), 199) := by
  unfold z_bd
  repeat (first | rw [if_neg (by omega)] | rw [if_pos (by omega)])
  try rfl
theorem bdr_374 (j : Int) : z_bd 374 j = ((-1), 199) := by
  unfold z_bd
  repeat (first | rw [if_neg (by omega)] | rw [if_pos (by omega)])
  try rfl
theorem bdr_376 (j : Int) : z_bd 376 j = ((-2147483648), 2147483647) := by
  unfold z_bd
  repeat (first | rw [if_neg (by omega)] | rw [if_pos (by omega)])
  try rfl
theorem bdr_389 (j : Int) : z_bd 389 j = ((-2147483648), 2147483647) := by
  unfold z_bd
  repeat (first | rw [if_neg (by omega)] | rw [if_pos (by omega)])
  try rfl
theorem bdr_7653 (j : Int) : z_bd 7653 j = (0, 200) := by
  unfold z_bd
  repeat (first | rw [if_neg (by omega)] | rw [if_pos (by omega)])
  try rfl
theorem bdr_7654 (j : Int) : z_bd 7654 j = ((-2147483648), 2147483647) := by
  unfold z_bd
  repeat (first | rw [if_neg (by omega)] | rw [if_pos (by omega)])
  try rfl
theorem bdr_7655 (j : Int) : z_bd 7655 j = ((-2147483648), 2147483647) := by
  unfold z_bd
  repeat (first | rw [if_neg (by omega)] | rw [if_pos (by omega)])
  try rfl
theorem bdr_7656 (j : Int) : z_bd 7656 j = ((-2147483648), 2147483647) := by
  unfold z_bd
  repeat (first | rw [if_neg (by omega)] | rw [if_pos (by omega)])
  try rfl
theorem bdr_7657 (j : Int) : z_bd 7657 j = ((-1), 199) := by
  unfold z_bd
  repeat (first | rw [if_neg (by omega)] | rw [if_pos (by omega)])
  try rfl
theorem sh_L0 {c : Int} (h : 407 ≤ c ∧ c ≤ 606) : z_sh c = (100, 20) := by
  unfold z_sh
  repeat (first | rw [if_neg (by omega)] | rw [if_pos (by omega)])
  try rfl
theorem sh_L13 {c : Int} (h : 3020 ≤ c ∧ c ≤ 3219) : z_sh c = (100, 20) := by
  unfold z_sh
  repeat (first | rw [if_neg (by omega)] | rw [if_pos (by omega)])
  try rfl
theorem sh_r315 {c : Int} (h : 316 ≤ c ∧ c ≤ 329) : z_sh c = (100, 3) := by
  unfold z_sh
  repeat (first | rw [if_neg (by omega)] | rw [if_pos (by omega)])
  try rfl
theorem sh_r3234 {c : Int} (h : 3235 ≤ c ∧ c ≤ 3434) : z_sh c = (100, 200) := by
  unfold z_sh
  repeat (first | rw [if_neg (by omega)] | rw [if_pos (by omega)])
  try rfl
theorem bds_r3234 {c : Int} (h : 3235 ≤ c ∧ c ≤ 3434) (j : Int) : z_bd c j = ((-2147483648), 2147483647) := by
  unfold z_bd
  repeat (first | rw [if_neg (by omega)] | rw [if_pos (by omega)])
  try (first | rfl | (rw [sh_r3234 h]; rfl))
theorem sh_r330 {c : Int} (h : 331 ≤ c ∧ c ≤ 344) : z_sh c = (100, 200) := by
  unfold z_sh
  repeat (first | rw [if_neg (by omega)] | rw [if_pos (by omega)])
  try rfl
theorem bds_r330 {c : Int} (h : 331 ≤ c ∧ c ≤ 344) (j : Int) : z_bd c j = ((-2147483648), 2147483647) := by
  unfold z_bd
  repeat (first | rw [if_neg (by omega)] | rw [if_pos (by omega)])
  try (first | rfl | (rw [sh_r330 h]; rfl))
theorem sh_r345 {c : Int} (h : 346 ≤ c ∧ c ≤ 359) : z_sh c = (100, 200) := by
  unfold z_sh
  repeat (first | rw [if_neg (by omega)] | rw [if_pos (by omega)])
  try rfl
theorem bds_r345 {c : Int} (h : 346 ≤ c ∧ c ≤ 359) (j : Int) : z_bd c j = ((-2147483648), 2147483647) := by
  unfold z_bd
  repeat (first | rw [if_neg (by omega)] | rw [if_pos (by omega)])
  try (first | rfl | (rw [sh_r345 h]; rfl))
theorem sh_r3451 {c : Int} (h : 3452 ≤ c ∧ c ≤ 3651) : z_sh c = (100, 8) := by
  unfold z_sh
  repeat (first | rw [if_neg (by omega)] | rw [if_pos (by omega)])
  try rfl
theorem sh_r360 {c : Int} (h : 361 ≤ c ∧ c ≤ 374) : z_sh c = (100, 200) := by
  unfold z_sh
  repeat (first | rw [if_neg (by omega)] | rw [if_pos (by omega)])
  try rfl
theorem bds_r360 {c : Int} (h : 361 ≤ c ∧ c ≤ 374) (j : Int) : z_bd c j = ((-1), 199) := by
  unfold z_bd
  repeat (first | rw [if_neg (by omega)] | rw [if_pos (by omega)])
  try (first | rfl | (rw [sh_r360 h]; rfl))
theorem sh_r3652 {c : Int} (h : 3653 ≤ c ∧ c ≤ 7652) : z_sh c = (100, 2) := by
  unfold z_sh
  repeat (first | rw [if_neg (by omega)] | rw [if_pos (by omega)])
  try rfl
theorem bds_r3652 {c : Int} (h : 3653 ≤ c ∧ c ≤ 7652) (j : Int) : z_bd c j = ((-2147483648), 2147483647) := by
  unfold z_bd
  repeat (first | rw [if_neg (by omega)] | rw [if_pos (by omega)])
  try (first | rfl | (rw [sh_r3652 h]; rfl))
theorem sh_r375 {c : Int} (h : 376 ≤ c ∧ c ≤ 389) : z_sh c = (100, 200) := by
  unfold z_sh
  repeat (first | rw [if_neg (by omega)] | rw [if_pos (by omega)])
  try rfl
theorem bds_r375 {c : Int} (h : 376 ≤ c ∧ c ≤ 389) (j : Int) : z_bd c j = ((-2147483648), 2147483647) := by
  unfold z_bd
  repeat (first | rw [if_neg (by omega)] | rw [if_pos (by omega)])
  try (first | rfl | (rw [sh_r375 h]; rfl))
theorem sh_r390 {c : Int} (h : 391 ≤ c ∧ c ≤ 404) : z_sh c = (100, 200) := by
  unfold z_sh
  repeat (first | rw [if_neg (by omega)] | rw [if_pos (by omega)])
  try rfl
theorem bds_L13_10 {c : Int} (h : 3020 ≤ c ∧ c ≤ 3219) : z_bd c 10 = (0, 9) := by
  unfold z_bd
  repeat (first | rw [if_neg (by omega)] | rw [if_pos (by omega)])
  try (first | rfl | (rw [sh_L13 h]; rfl))
theorem bds_r315_1 {c : Int} (h : 316 ≤ c ∧ c ≤ 329) : z_bd c 1 = (0, 200) := by
  unfold z_bd
  repeat (first | rw [if_neg (by omega)] | rw [if_pos (by omega)])
  try (first | rfl | (rw [sh_r315 h]; rfl))
theorem bds_r3451_0 {c : Int} (h : 3452 ≤ c ∧ c ≤ 3651) : z_bd c 0 = (0, 199) := by
  unfold z_bd
  repeat (first | rw [if_neg (by omega)] | rw [if_pos (by omega)])
  try (first | rfl | (rw [sh_r3451 h]; rfl))
theorem bds_r3451_1 {c : Int} (h : 3452 ≤ c ∧ c ≤ 3651) : z_bd c 1 = (0, 200) := by
  unfold z_bd
  repeat (first | rw [if_neg (by omega)] | rw [if_pos (by omega)])
  try (first | rfl | (rw [sh_r3451 h]; rfl))
theorem bds_r3451_2 {c : Int} (h : 3452 ≤ c ∧ c ≤ 3651) : z_bd c 2 = ((-2147483648), 2147483647) := by
  unfold z_bd
  repeat (first | rw [if_neg (by omega)] | rw [if_pos (by omega)])
  try (first | rfl | (rw [sh_r3451 h]; rfl))
theorem bds_r3451_3 {c : Int} (h : 3452 ≤ c ∧ c ≤ 3651) : z_bd c 3 = ((-2147483648), 2147483647) := by
  unfold z_bd
  repeat (first | rw [if_neg (by omega)] | rw [if_pos (by omega)])
  try (first | rfl | (rw [sh_r3451 h]; rfl))
theorem bds_r3451_4 {c : Int} (h : 3452 ≤ c ∧ c ≤ 3651) : z_bd c 4 = ((-2147483648), 2147483647) := by
  unfold z_bd
  repeat (first | rw [if_neg (by omega)] | rw [if_pos (by omega)])
  try (first | rfl | (rw [sh_r3451 h]; rfl))
theorem bds_r3451_5 {c : Int} (h : 3452 ≤ c ∧ c ≤ 3651) : z_bd c 5 = ((-2147483648), 2147483647) := by
  unfold z_bd
  repeat (first | rw [if_neg (by omega)] | rw [if_pos (by omega)])
  try (first | rfl | (rw [sh_r3451 h]; rfl))
theorem bds_r3451_6 {c : Int} (h : 3452 ≤ c ∧ c ≤ 3651) : z_bd c 6 = ((-2147483648), 2147483647) := by
  unfold z_bd
  repeat (first | rw [if_neg (by omega)] | rw [if_pos (by omega)])
  try (first | rfl | (rw [sh_r3451 h]; rfl))
theorem bds_r3451_7 {c : Int} (h : 3452 ≤ c ∧ c ≤ 3651) : z_bd c 7 = ((-2147483648), 2147483647) := by
  unfold z_bd
  repeat (first | rw [if_neg (by omega)] | rw [if_pos (by omega)])
  try (first | rfl | (rw [sh_r3451 h]; rfl))
theorem gr_315 (j : Int) : z_gr 315 j = 316 + j := by
  show (_ : Int) = _
  unfold z_gr
  repeat (first | rw [if_neg (by omega)] | rw [if_pos (by omega)])
  try omega
theorem gr_330 (j : Int) : z_gr 330 j = 331 + j := by
  show (_ : Int) = _
  unfold z_gr
  repeat (first | rw [if_neg (by omega)] | rw [if_pos (by omega)])
  try omega
theorem gr_345 (j : Int) : z_gr 345 j = 346 + j := by
  show (_ : Int) = _
  unfold z_gr
  repeat (first | rw [if_neg (by omega)] | rw [if_pos (by omega)])
  try omega
theorem gr_360 (j : Int) : z_gr 360 j = 361 + j := by
  show (_ : Int) = _
  unfold z_gr
  repeat (first | rw [if_neg (by omega)] | rw [if_pos (by omega)])
  try omega
theorem gr_375 (j : Int) : z_gr 375 j = 376 + j := by
  show (_ : Int) = _
  unfold z_gr
  repeat (first | rw [if_neg (by omega)] | rw [if_pos (by omega)])
  try omega
theorem gr_390 (j : Int) : z_gr 390 j = 391 + j := by
  show (_ : Int) = _
  unfold z_gr
  repeat (first | rw [if_neg (by omega)] | rw [if_pos (by omega)])
  try omega
theorem gr_406 (j : Int) : z_gr 406 j = 407 + j := by
  show (_ : Int) = _
  unfold z_gr
  repeat (first | rw [if_neg (by omega)] | rw [if_pos (by omega)])
  try omega
theorem gr_3019 (j : Int) : z_gr 3019 j = 3020 + j := by
  show (_ : Int) = _
  unfold z_gr
  repeat (first | rw [if_neg (by omega)] | rw [if_pos (by omega)])
  try omega
theorem gr_3234 (j : Int) : z_gr 3234 j = 3235 + j := by
  show (_ : Int) = _
  unfold z_gr
  repeat (first | rw [if_neg (by omega)] | rw [if_pos (by omega)])
  try omega
theorem gr_3451 (j : Int) : z_gr 3451 j = 3452 + j := by
  show (_ : Int) = _
  unfold z_gr
  repeat (first | rw [if_neg (by omega)] | rw [if_pos (by omega)])
  try omega
theorem gr_3652 (j : Int) : z_gr 3652 j = 3653 + j := by
  show (_ : Int) = _
  unfold z_gr
  repeat (first | rw [if_neg (by omega)] | rw [if_pos (by omega)])
  try omega
abbrev R_X12_in (a b : Int) : Prop := False
abbrev P_X12_in (r0 : z_M) (a0 : Int) (a1 : Int) (a2 : Int) : z_V → z_M → Prop := fun v s' => z_CI s' ∧ z_Fr R_X12_in r0 s' ∧ (∃ x, v = vI x ∧ 0 ≤ x ∧ x ≤ 1 ∧ ((x = 1 ∧ a1 ≤ a0 ∧ a0 ≤ a2) ∨ (x = 0 ∧ (a0 < a1 ∨ a2 < a0))))
theorem sj_X12_in_J15 {fu : Nat} (hfu : 8589934592 ≤ fu) (r0 s : z_M) (c : z_CI s) (f : z_Fr R_X12_in r0 s) (t0 : Int) (a0 : Int) (a1 : Int) (a2 : Int) (d0 : 0 ≤ t0 ∧ t0 ≤ 1) (p0 : (t0 = 1 ∧ a1 ≤ a0 ∧ a0 ≤ a2) ∨ (t0 = 0 ∧ (a0 < a1 ∨ a2 < a0))) : z_T (fX12_in_J15 fu s t0) (P_X12_in r0 a0 a1 a2) := by
  have qf := z_Fr.eq (fun a b h => h) f
  subst qf
  refine T_of (fX12_in_J15.eq_1 ..) ?_
  refine T_if1 (by unfold z_bl; omega) ?_
  exact T_ret ⟨c, f, ⟨t0, rfl, by omega, by omega, (by omega)⟩⟩
theorem sj_X12_in_J14 {fu : Nat} (hfu : 8589934592 ≤ fu) (r0 s : z_M) (c : z_CI s) (f : z_Fr R_X12_in r0 s) (a0 : Int) (a1 : Int) (a2 : Int) (p0 : a0 < a1 ∨ a2 < a0) : z_T (fX12_in_J14 fu s) (P_X12_in r0 a0 a1 a2) := by
  have qf := z_Fr.eq (fun a b h => h) f
  subst qf
  refine T_of (fX12_in_J14.eq_1 ..) ?_
  exact sj_X12_in_J15 hfu r0 r0 c f 0 a0 a1 a2 (by omega) (by omega)
theorem sf_X12_in {fu : Nat} (hfu : 8589934592 ≤ fu) (r0 : z_M) (c0 : z_CI r0) (a0 : Int) (a1 : Int) (a2 : Int) (b0 : -2147483648 ≤ a0 ∧ a0 ≤ 2147483647) (b1 : -2147483648 ≤ a1 ∧ a1 ≤ 2147483647) (b2 : -2147483648 ≤ a2 ∧ a2 ≤ 2147483647) : z_T (fX12_in fu r0 a0 a1 a2) (P_X12_in r0 a0 a1 a2) := by
  refine T_of (fX12_in.eq_1 ..) ?_
  refine T_ite (fun h1 => ?_) (fun h1 => ?_)
  · exact sj_X12_in_J14 hfu r0 r0 c0 z_Fr.rf a0 a1 a2 (by omega)
  · refine T_ite (fun h2 => ?_) (fun h2 => ?_)
    · exact sj_X12_in_J14 hfu r0 r0 c0 z_Fr.rf a0 a1 a2 (by omega)
    · exact sj_X12_in_J15 hfu r0 r0 c0 z_Fr.rf 1 a0 a1 a2 (by omega) (by omega)
abbrev R_X12_less (a b : Int) : Prop := False
abbrev P_X12_less (r0 : z_M) (a0 : Int) (a1 : Int) : z_V → z_M → Prop := fun v s' => z_CI s' ∧ z_Fr R_X12_less r0 s' ∧ (∃ x, v = vI x ∧ -2147483648 ≤ x ∧ x ≤ 2147483647 ∧ (x ≤ a0 ∧ x ≤ a1 ∧ (x = a0 ∨ x = a1)))
theorem sj_X12_less_J10 {fu : Nat} (hfu : 8589934592 ≤ fu) (r0 s : z_M) (c : z_CI s) (f : z_Fr R_X12_less r0 s) (t0 : Int) (a0 : Int) (a1 : Int) (d0 : -2147483648 ≤ t0 ∧ t0 ≤ 2147483647) (p0 : t0 ≤ a0 ∧ t0 ≤ a1 ∧ (t0 = a0 ∨ t0 = a1)) : z_T (fX12_less_J10 fu s t0) (P_X12_less r0 a0 a1) := by
  have qf := z_Fr.eq (fun a b h => h) f
  subst qf
  refine T_of (fX12_less_J10.eq_1 ..) ?_
  exact T_ret ⟨c, f, ⟨t0, rfl, by omega, by omega, (by omega)⟩⟩
theorem sf_X12_less {fu : Nat} (hfu : 8589934592 ≤ fu) (r0 : z_M) (c0 : z_CI r0) (a0 : Int) (a1 : Int) (b0 : -2147483648 ≤ a0 ∧ a0 ≤ 2147483647) (b1 : -2147483648 ≤ a1 ∧ a1 ≤ 2147483647) : z_T (fX12_less fu r0 a0 a1) (P_X12_less r0 a0 a1) := by
  refine T_of (fX12_less.eq_1 ..) ?_
  refine T_ite (fun h1 => ?_) (fun h1 => ?_)
  · exact sj_X12_less_J10 hfu r0 r0 c0 z_Fr.rf a1 a0 a1 (by omega) (by omega)
  · exact sj_X12_less_J10 hfu r0 r0 c0 z_Fr.rf a0 a0 a1 (by omega) (by omega)
abbrev R_X12_more (a b : Int) : Prop := False
abbrev P_X12_more (r0 : z_M) (a0 : Int) (a1 : Int) : z_V → z_M → Prop := fun v s' => z_CI s' ∧ z_Fr R_X12_more r0 s' ∧ (∃ x, v = vI x ∧ -2147483648 ≤ x ∧ x ≤ 2147483647 ∧ (a0 ≤ x ∧ a1 ≤ x ∧ (x = a0 ∨ x = a1)))
theorem sj_X12_more_J10 {fu : Nat} (hfu : 8589934592 ≤ fu) (r0 s : z_M) (c : z_CI s) (f : z_Fr R_X12_more r0 s) (t0 : Int) (a0 : Int) (a1 : Int) (d0 : -2147483648 ≤ t0 ∧ t0 ≤ 2147483647) (p0 : a0 ≤ t0 ∧ a1 ≤ t0 ∧ (t0 = a0 ∨ t0 = a1)) : z_T (fX12_more_J10 fu s t0) (P_X12_more r0 a0 a1) := by
  have qf := z_Fr.eq (fun a b h => h) f
  subst qf
  refine T_of (fX12_more_J10.eq_1 ..) ?_
  exact T_ret ⟨c, f, ⟨t0, rfl, by omega, by omega, (by omega)⟩⟩
theorem sf_X12_more {fu : Nat} (hfu : 8589934592 ≤ fu) (r0 : z_M) (c0 : z_CI r0) (a0 : Int) (a1 : Int) (b0 : -2147483648 ≤ a0 ∧ a0 ≤ 2147483647) (b1 : -2147483648 ≤ a1 ∧ a1 ≤ 2147483647) : z_T (fX12_more fu r0 a0 a1) (P_X12_more r0 a0 a1) := by
  refine T_of (fX12_more.eq_1 ..) ?_
  refine T_ite (fun h1 => ?_) (fun h1 => ?_)
  · exact sj_X12_more_J10 hfu r0 r0 c0 z_Fr.rf a1 a0 a1 (by omega) (by omega)
  · exact sj_X12_more_J10 hfu r0 r0 c0 z_Fr.rf a0 a0 a1 (by omega) (by omega)
abbrev R_X12_isBig (a b : Int) : Prop := False
abbrev P_X12_isBig (r0 : z_M) (a0 : Int) : z_V → z_M → Prop := fun v s' => z_CI s' ∧ z_Fr R_X12_isBig r0 s' ∧ (∃ x, v = vI x ∧ 0 ≤ x ∧ x ≤ 1 ∧ ((x = 1 ∧ 65 ≤ a0 ∧ a0 ≤ 90) ∨ (x = 0 ∧ (a0 < 65 ∨ 90 < a0))))
theorem sj_X12_isBig_J17 {fu : Nat} (hfu : 8589934592 ≤ fu) (r0 s : z_M) (c : z_CI s) (f : z_Fr R_X12_isBig r0 s) (t0 : Int) (a0 : Int) (d0 : 0 ≤ t0 ∧ t0 ≤ 1) (p0 : (t0 = 1 ∧ 65 ≤ a0 ∧ a0 ≤ 90) ∨ (t0 = 0 ∧ (a0 < 65 ∨ 90 < a0))) : z_T (fX12_isBig_J17 fu s t0) (P_X12_isBig r0 a0) := by
  have qf := z_Fr.eq (fun a b h => h) f
  subst qf
  refine T_of (fX12_isBig_J17.eq_1 ..) ?_
  refine T_if1 (by unfold z_bl; omega) ?_
  exact T_ret ⟨c, f, ⟨t0, rfl, by omega, by omega, (by omega)⟩⟩
theorem sj_X12_isBig_J16 {fu : Nat} (hfu : 8589934592 ≤ fu) (r0 s : z_M) (c : z_CI s) (f : z_Fr R_X12_isBig r0 s) (a0 : Int) (p0 : a0 < 65 ∨ 90 < a0) : z_T (fX12_isBig_J16 fu s) (P_X12_isBig r0 a0) := by
  have qf := z_Fr.eq (fun a b h => h) f
  subst qf
  refine T_of (fX12_isBig_J16.eq_1 ..) ?_
  exact sj_X12_isBig_J17 hfu r0 r0 c f 0 a0 (by omega) (by omega)
theorem sf_X12_isBig {fu : Nat} (hfu : 8589934592 ≤ fu) (r0 : z_M) (c0 : z_CI r0) (a0 : Int) (b0 : -2147483648 ≤ a0 ∧ a0 ≤ 2147483647) : z_T (fX12_isBig fu r0 a0) (P_X12_isBig r0 a0) := by
  refine T_of (fX12_isBig.eq_1 ..) ?_
  refine T_ite (fun h1 => ?_) (fun h1 => ?_)
  · exact sj_X12_isBig_J16 hfu r0 r0 c0 z_Fr.rf a0 (by omega)
  · refine T_ite (fun h2 => ?_) (fun h2 => ?_)
    · exact sj_X12_isBig_J16 hfu r0 r0 c0 z_Fr.rf a0 (by omega)
    · exact sj_X12_isBig_J17 hfu r0 r0 c0 z_Fr.rf 1 a0 (by omega) (by omega)
abbrev R_X12_isSmall (a b : Int) : Prop := False
abbrev P_X12_isSmall (r0 : z_M) (a0 : Int) : z_V → z_M → Prop := fun v s' => z_CI s' ∧ z_Fr R_X12_isSmall r0 s' ∧ (∃ x, v = vI x ∧ 0 ≤ x ∧ x ≤ 1 ∧ ((x = 1 ∧ 97 ≤ a0 ∧ a0 ≤ 122) ∨ (x = 0 ∧ (a0 < 97 ∨ 122 < a0))))
theorem sj_X12_isSmall_J17 {fu : Nat} (hfu : 8589934592 ≤ fu) (r0 s : z_M) (c : z_CI s) (f : z_Fr R_X12_isSmall r0 s) (t0 : Int) (a0 : Int) (d0 : 0 ≤ t0 ∧ t0 ≤ 1) (p0 : (t0 = 1 ∧ 97 ≤ a0 ∧ a0 ≤ 122) ∨ (t0 = 0 ∧ (a0 < 97 ∨ 122 < a0))) : z_T (fX12_isSmall_J17 fu s t0) (P_X12_isSmall r0 a0) := by
  have qf := z_Fr.eq (fun a b h => h) f
  subst qf
  refine T_of (fX12_isSmall_J17.eq_1 ..) ?_
  refine T_if1 (by unfold z_bl; omega) ?_
  exact T_ret ⟨c, f, ⟨t0, rfl, by omega, by omega, (by omega)⟩⟩
theorem sj_X12_isSmall_J16 {fu : Nat} (hfu : 8589934592 ≤ fu) (r0 s : z_M) (c : z_CI s) (f : z_Fr R_X12_isSmall r0 s) (a0 : Int) (p0 : a0 < 97 ∨ 122 < a0) : z_T (fX12_isSmall_J16 fu s) (P_X12_isSmall r0 a0) := by
  have qf := z_Fr.eq (fun a b h => h) f
  subst qf
  refine T_of (fX12_isSmall_J16.eq_1 ..) ?_
  exact sj_X12_isSmall_J17 hfu r0 r0 c f 0 a0 (by omega) (by omega)
theorem sf_X12_isSmall {fu : Nat} (hfu : 8589934592 ≤ fu) (r0 : z_M) (c0 : z_CI r0) (a0 : Int) (b0 : -2147483648 ≤ a0 ∧ a0 ≤ 2147483647) : z_T (fX12_isSmall fu r0 a0) (P_X12_isSmall r0 a0) := by
  refine T_of (fX12_isSmall.eq_1 ..) ?_
  refine T_ite (fun h1 => ?_) (fun h1 => ?_)
  · exact sj_X12_isSmall_J16 hfu r0 r0 c0 z_Fr.rf a0 (by omega)
  · refine T_ite (fun h2 => ?_) (fun h2 => ?_)
    · exact sj_X12_isSmall_J16 hfu r0 r0 c0 z_Fr.rf a0 (by omega)
    · exact sj_X12_isSmall_J17 hfu r0 r0 c0 z_Fr.rf 1 a0 (by omega) (by omega)
abbrev R_X12_plainKind (a b : Int) : Prop := False
abbrev P_X12_plainKind (r0 : z_M) (a0 : Int) : z_V → z_M → Prop := fun v s' => z_CI s' ∧ z_Fr R_X12_plainKind r0 s' ∧ (∃ x, v = vI x ∧ (-1) ≤ x ∧ x ≤ 6 ∧ (x = -1 ∨ 0 ≤ a0))
theorem sj_X12_plainKind_J80 {fu : Nat} (hfu : 8589934592 ≤ fu) (r0 s : z_M) (c : z_CI s) (f : z_Fr R_X12_plainKind r0 s) (t0 : Int) (a0 : Int) (d0 : (-1) ≤ t0 ∧ t0 ≤ 6) (p0 : t0 = -1 ∨ 0 ≤ a0) : z_T (fX12_plainKind_J80 fu s t0) (P_X12_plainKind r0 a0) := by
  have qf := z_Fr.eq (fun a b h => h) f
  subst qf
  refine T_of (fX12_plainKind_J80.eq_1 ..) ?_
  exact T_ret ⟨c, f, ⟨t0, rfl, by omega, by omega, (by omega)⟩⟩
theorem sj_X12_plainKind_J44 {fu : Nat} (hfu : 8589934592 ≤ fu) (r0 s : z_M) (c : z_CI s) (f : z_Fr R_X12_plainKind r0 s) (a0 : Int) (p0 : 0 ≤ a0) : z_T (fX12_plainKind_J44 fu s) (P_X12_plainKind r0 a0) := by
  have qf := z_Fr.eq (fun a b h => h) f
  subst qf
  refine T_of (fX12_plainKind_J44.eq_1 ..) ?_
  exact sj_X12_plainKind_J80 hfu r0 r0 c f 3 a0 (by omega) (by omega)
theorem sj_X12_plainKind_J32 {fu : Nat} (hfu : 8589934592 ≤ fu) (r0 s : z_M) (c : z_CI s) (f : z_Fr R_X12_plainKind r0 s) (a0 : Int) (b0 : -2147483648 ≤ a0 ∧ a0 ≤ 2147483647) : z_T (fX12_plainKind_J32 fu s a0) (P_X12_plainKind r0 a0) := by
  have qf := z_Fr.eq (fun a b h => h) f
  subst qf
  refine T_of (fX12_plainKind_J32.eq_1 ..) ?_
  refine T_ite (fun h1 => ?_) (fun h1 => ?_)
  · exact sj_X12_plainKind_J44 hfu r0 r0 c f a0 (by omega)
  · refine T_ite (fun h2 => ?_) (fun h2 => ?_)
    · refine T_ite (fun h3 => ?_) (fun h3 => ?_)
      · refine T_ite (fun h4 => ?_) (fun h4 => ?_)
        · refine T_ite (fun h5 => ?_) (fun h5 => ?_)
          · exact sj_X12_plainKind_J80 hfu r0 r0 c f (-1) a0 (by omega) (by omega)
          · exact sj_X12_plainKind_J80 hfu r0 r0 c f 6 a0 (by omega) (by omega)
        · exact sj_X12_plainKind_J80 hfu r0 r0 c f 5 a0 (by omega) (by omega)
      · exact sj_X12_plainKind_J80 hfu r0 r0 c f 4 a0 (by omega) (by omega)
    · exact sj_X12_plainKind_J44 hfu r0 r0 c f a0 (by omega)
theorem sf_X12_plainKind {fu : Nat} (hfu : 8589934592 ≤ fu) (r0 : z_M) (c0 : z_CI r0) (a0 : Int) (b0 : -2147483648 ≤ a0 ∧ a0 ≤ 2147483647) : z_T (fX12_plainKind fu r0 a0) (P_X12_plainKind r0 a0) := by
  refine T_of (fX12_plainKind.eq_1 ..) ?_
  refine T_useI (sf_X12_isBig hfu r0 c0 a0 (by omega)) (fun v6 s1 hq => ?_)
  obtain ⟨c2, f3, ⟨x5, rfl, b7, b8, o9⟩⟩ := hq
  refine T_vI ?_
  have q10 := z_Fr.eq (fun a b h => h) f3
  subst q10
  refine T_ite (fun h11 => ?_) (fun h11 => ?_)
  · refine T_useI (sf_X12_isSmall hfu r0 c0 a0 (by omega)) (fun v17 s12 hq => ?_)
    obtain ⟨c13, f14, ⟨x16, rfl, b18, b19, o20⟩⟩ := hq
    refine T_vI ?_
    have q21 := z_Fr.eq (fun a b h => h) f14
    subst q21
    refine T_ite (fun h22 => ?_) (fun h22 => ?_)
    · refine T_ite (fun h23 => ?_) (fun h23 => ?_)
      · exact sj_X12_plainKind_J32 hfu r0 r0 c0 z_Fr.rf a0 (by omega)
      · refine T_ite (fun h24 => ?_) (fun h24 => ?_)
        · exact sj_X12_plainKind_J32 hfu r0 r0 c0 z_Fr.rf a0 (by omega)
        · exact T_ret ⟨c0, z_Fr.rf, ⟨2, rfl, by omega, by omega, (by omega)⟩⟩
    · exact T_ret ⟨c0, z_Fr.rf, ⟨1, rfl, by omega, by omega, (by omega)⟩⟩
  · exact T_ret ⟨c0, z_Fr.rf, ⟨0, rfl, by omega, by omega, (by omega)⟩⟩
abbrev R_X12_wide (a b : Int) : Prop := False
abbrev P_X12_wide (r0 : z_M) : z_V → z_M → Prop := fun v s' => z_CI s' ∧ z_Fr R_X12_wide r0 s' ∧ (∃ x, v = vI x ∧ -2147483648 ≤ x ∧ x ≤ 2147483647)
theorem sj_X12_wide_J41 {fu : Nat} (hfu : 8589934592 ≤ fu) (r0 s : z_M) (c : z_CI s) (f : z_Fr R_X12_wide r0 s) (t0 : Int) (d0 : 4 ≤ t0 ∧ t0 ≤ 9) : z_T (fX12_wide_J41 fu s t0) (P_X12_wide r0) := by
  have qf := z_Fr.eq (fun a b h => h) f
  subst qf
  refine T_of (fX12_wide_J41.eq_1 ..) ?_
  exact T_ret ⟨c, f, ⟨t0, rfl, by omega, by omega⟩⟩
theorem sj_X12_wide_J18 {fu : Nat} (hfu : 8589934592 ≤ fu) (r0 s : z_M) (c : z_CI s) (f : z_Fr R_X12_wide r0 s) : z_T (fX12_wide_J18 fu s) (P_X12_wide r0) := by
  have qf := z_Fr.eq (fun a b h => h) f
  subst qf
  refine T_of (fX12_wide_J18.eq_1 ..) ?_
  exact sj_X12_wide_J41 hfu r0 r0 c f 4 (by omega)
theorem sj_X12_wide_J34 {fu : Nat} (hfu : 8589934592 ≤ fu) (r0 s : z_M) (c : z_CI s) (f : z_Fr R_X12_wide r0 s) : z_T (fX12_wide_J34 fu s) (P_X12_wide r0) := by
  have qf := z_Fr.eq (fun a b h => h) f
  subst qf
  refine T_of (fX12_wide_J34.eq_1 ..) ?_
  exact sj_X12_wide_J41 hfu r0 r0 c f 9 (by omega)
theorem sf_X12_wide {fu : Nat} (hfu : 8589934592 ≤ fu) (r0 : z_M) (c0 : z_CI r0) (a0 : Int) (b0 : -2147483648 ≤ a0 ∧ a0 ≤ 2147483647) : z_T (fX12_wide fu r0 a0) (P_X12_wide r0) := by
  refine T_of (fX12_wide.eq_1 ..) ?_
  refine T_ite (fun h1 => ?_) (fun h1 => ?_)
  · exact sj_X12_wide_J18 hfu r0 r0 c0 z_Fr.rf
  · refine T_ite (fun h2 => ?_) (fun h2 => ?_)
    · exact sj_X12_wide_J18 hfu r0 r0 c0 z_Fr.rf
    · refine T_ite (fun h3 => ?_) (fun h3 => ?_)
      · refine T_ite (fun h4 => ?_) (fun h4 => ?_)
        · exact sj_X12_wide_J34 hfu r0 r0 c0 z_Fr.rf
        · refine T_ite (fun h5 => ?_) (fun h5 => ?_)
          · exact sj_X12_wide_J41 hfu r0 r0 c0 z_Fr.rf 6 (by omega)
          · exact sj_X12_wide_J34 hfu r0 r0 c0 z_Fr.rf
      · exact sj_X12_wide_J18 hfu r0 r0 c0 z_Fr.rf
abbrev R_X12_bad_309 (a b : Int) : Prop := (310 ≤ a ∧ a ≤ 310) ∨ (a = 309 ∧ (b = 0))
abbrev P_X12_bad_309 (r0 : z_M) (a1 : Int) (a2 : Int) : z_V → z_M → Prop := fun v s' => z_CI s' ∧ z_Fr R_X12_bad_309 r0 s' ∧ ((a1 ≠ 0 ∧ r0 309 0 = 0 ∧ s' 309 0 = a2) ∨ ((a1 = 0 ∨ r0 309 0 ≠ 0) ∧ s' 309 0 = r0 309 0)) ∧ (∃ x, v = vI x ∧ 0 ≤ x ∧ x ≤ 1 ∧ (x = 1 ∨ a1 = 0) ∧ (x = 0 ∨ a1 ≠ 0 ∨ r0 309 0 ≠ 0))
theorem sj_X12_bad_309_J38 {fu : Nat} (hfu : 8589934592 ≤ fu) (r0 s : z_M) (c : z_CI s) (f : z_Fr R_X12_bad_309 r0 s) (t0 : Int) (a1 : Int) (a2 : Int) (d0 : 0 ≤ t0 ∧ t0 ≤ 1) (p0 : t0 = 1 ∨ a1 = 0) (p1 : t0 = 0 ∨ a1 ≠ 0 ∨ r0 309 0 ≠ 0) (p2 : (a1 ≠ 0 ∧ r0 309 0 = 0 ∧ s 309 0 = a2) ∨ ((a1 = 0 ∨ r0 309 0 ≠ 0) ∧ s 309 0 = r0 309 0)) : z_T (fX12_bad_J38 fu s t0) (P_X12_bad_309 r0 a1 a2) := by
  refine T_of (fX12_bad_J38.eq_1 ..) ?_
  have u1 := CI_b c (k := 309) (j := 0) bd_309_0
  refine T_if1 (by unfold z_bl; omega) ?_
  exact T_ret ⟨c, f, (by omega), ⟨t0, rfl, by omega, by omega, (by omega), (by omega)⟩⟩
theorem sj_X12_bad_309_J26 {fu : Nat} (hfu : 8589934592 ≤ fu) (r0 s : z_M) (c : z_CI s) (f : z_Fr R_X12_bad_309 r0 s) (a1 : Int) (a2 : Int) (p0 : a1 = 0 ∨ s 309 0 ≠ 0) (p1 : s 309 0 = 0 ∨ a1 ≠ 0 ∨ r0 309 0 ≠ 0) (p2 : (a1 ≠ 0 ∧ r0 309 0 = 0 ∧ s 309 0 = a2) ∨ ((a1 = 0 ∨ r0 309 0 ≠ 0) ∧ s 309 0 = r0 309 0)) : z_T (fX12_bad_J26 fu s 309) (P_X12_bad_309 r0 a1 a2) := by
  refine T_of (fX12_bad_J26.eq_1 ..) ?_
  have u1 := CI_b c (k := 309) (j := 0) bd_309_0
  refine T_if1 (by decide +kernel) ?_
  refine T_leq (fun x2 e3 => ?_)
  have u4 := CI_b c (k := 309) (j := 0) bd_309_0
  refine T_ite (fun h5 => ?_) (fun h5 => ?_)
  · exact sj_X12_bad_309_J38 hfu r0 s c f 0 a1 a2 (by omega) (by omega) (by omega) (by omega)
  · exact sj_X12_bad_309_J38 hfu r0 s c f 1 a1 a2 (by omega) (by omega) (by omega) (by omega)
theorem sf_X12_bad_309 {fu : Nat} (hfu : 8589934592 ≤ fu) (r0 : z_M) (c0 : z_CI r0) (a1 : Int) (a2 : Int) (a3 : Int) (b1 : 0 ≤ a1 ∧ a1 ≤ 1) (b2 : -2147483648 ≤ a2 ∧ a2 ≤ 2147483647) (b3 : 0 ≤ a3 ∧ a3 ≤ 1) (p0 : a2 ≠ 0) : z_T (fX12_bad fu r0 309 a1 a2 a3) (P_X12_bad_309 r0 a1 a2) := by
  refine T_of (fX12_bad.eq_1 ..) ?_
  have u1 := CI_b c0 (k := 309) (j := 0) bd_309_0
  refine T_ite (fun h2 => ?_) (fun h2 => ?_)
  · exact sj_X12_bad_309_J26 hfu r0 r0 c0 z_Fr.rf a1 a2 (by omega) (by omega) (by omega)
  · refine T_if1 (by decide +kernel) ?_
    refine T_leq (fun x3 e4 => ?_)
    have u5 := CI_b c0 (k := 309) (j := 0) bd_309_0
    refine T_ite (fun h6 => ?_) (fun h6 => ?_)
    · exact sj_X12_bad_309_J26 hfu r0 r0 c0 z_Fr.rf a1 a2 (by omega) (by omega) (by omega)
    · refine T_if1 (by decide +kernel) ?_
      refine T_upg c0 bd_309_0 (by omega) (fun s7 c8 g10 g11 e12 => ?_)
      have f9 := z_Fr.upf (R := R_X12_bad_309) z_Fr.rf g10 g11 (Or.inr (⟨rfl, by decide⟩))
      have u13 := CI_b c8 (k := 309) (j := 0) bd_309_0
      refine T_if1 (by decide +kernel) ?_
      refine T_let 310 (by decide +kernel) ?_
      refine T_if1 (z_ixl (n := 2) (by decide +kernel) (by omega) (by omega)) ?_
      refine T_leq (fun x14 e15 => ?_)
      have u16 := CI_b c8 (k := 310) (j := a3) (bdr_310 a3)
      refine T_leq (fun x17 e18 => ?_)
      first | (have w19 := z_wx e18 (by omega)) | (have w19 := z_wr e18)
      refine T_if1 (z_ixl (n := 2) (by decide +kernel) (by omega) (by omega)) ?_
      refine T_upg c8 (bdr_310 a3) (by omega) (fun s20 c21 g23 g24 e25 => ?_)
      have f22 := z_Fr.up (R := R_X12_bad_309) f9 g23 (fun _ => (Or.inl (⟨by decide, by decide⟩)))
      have t26 : s20 309 0 = s7 309 0 := g23 309 0 (by decide)
      exact sj_X12_bad_309_J26 hfu r0 s20 c21 f22 a1 a2 (by omega) (by omega) (by omega)
abbrev R_X12_fine_309 (a b : Int) : Prop := False
abbrev P_X12_fine_309 (r0 : z_M) : z_V → z_M → Prop := fun v s' => z_CI s' ∧ z_Fr R_X12_fine_309 r0 s' ∧ (∃ x, v = vI x ∧ 0 ≤ x ∧ x ≤ 1 ∧ ((x = 1 ∧ r0 309 6 = 0) ∨ (x = 0 ∧ r0 309 6 ≠ 0)))
theorem sj_X12_fine_309_J12 {fu : Nat} (hfu : 8589934592 ≤ fu) (r0 s : z_M) (c : z_CI s) (f : z_Fr R_X12_fine_309 r0 s) (t0 : Int) (d0 : 0 ≤ t0 ∧ t0 ≤ 1) (p0 : (t0 = 1 ∧ s 309 6 = 0) ∨ (t0 = 0 ∧ s 309 6 ≠ 0)) : z_T (fX12_fine_J12 fu s t0) (P_X12_fine_309 r0) := by
  have qf := z_Fr.eq (fun a b h => h) f
  subst qf
  refine T_of (fX12_fine_J12.eq_1 ..) ?_
  have u1 := CI_b c (k := 309) (j := 6) bd_309_6
  have t2 : r0 309 6 = r0 309 6 := f 309 6 (by exact not_false)
  refine T_if1 (by unfold z_bl; omega) ?_
  exact T_ret ⟨c, f, ⟨t0, rfl, by omega, by omega, (by omega)⟩⟩
theorem sf_X12_fine_309 {fu : Nat} (hfu : 8589934592 ≤ fu) (r0 : z_M) (c0 : z_CI r0) : z_T (fX12_fine fu r0 309) (P_X12_fine_309 r0) := by
  refine T_of (fX12_fine.eq_1 ..) ?_
  have u1 := CI_b c0 (k := 309) (j := 6) bd_309_6
  refine T_if1 (by decide +kernel) ?_
  refine T_leq (fun x2 e3 => ?_)
  have u4 := CI_b c0 (k := 309) (j := 6) bd_309_6
  refine T_ite (fun h5 => ?_) (fun h5 => ?_)
  · exact sj_X12_fine_309_J12 hfu r0 r0 c0 z_Fr.rf 0 (by omega) (by omega)
  · exact sj_X12_fine_309_J12 hfu r0 r0 c0 z_Fr.rf 1 (by omega) (by omega)
abbrev R_X12_here_309 (a b : Int) : Prop := False
abbrev P_X12_here_309 (r0 : z_M) : z_V → z_M → Prop := fun v s' => z_CI s' ∧ z_Fr R_X12_here_309 r0 s' ∧ (∃ x, v = vI x ∧ -2147483648 ≤ x ∧ x ≤ 2147483647 ∧ (x = y_hr r0))
theorem sj_X12_here_309_J24 {fu : Nat} (hfu : 8589934592 ≤ fu) (r0 s : z_M) (c : z_CI s) (f : z_Fr R_X12_here_309 r0 s) (t0 : Int) (d0 : -2147483648 ≤ t0 ∧ t0 ≤ 2147483647) (p0 : t0 = y_hr s) : z_T (fX12_here_J24 fu s t0) (P_X12_here_309 r0) := by
  have qf := z_Fr.eq (fun a b h => h) f
  subst qf
  refine T_of (fX12_here_J24.eq_1 ..) ?_
  have u1 := CI_b c (k := 309) (j := 3) bd_309_3
  have u2 := CI_b c (k := 309) (j := 4) bd_309_4
  have t3 : r0 309 3 = r0 309 3 := f 309 3 (by exact not_false)
  have t4 : r0 309 4 = r0 309 4 := f 309 4 (by exact not_false)
  exact T_ret ⟨c, f, ⟨t0, rfl, by omega, by omega, (by first | assumption | exact y_hr_no (by omega) | exact y_hr_mk (by omega) (by assumption) (by assumption))⟩⟩
theorem sf_X12_here_309 {fu : Nat} (hfu : 8589934592 ≤ fu) (r0 : z_M) (c0 : z_CI r0) : z_T (fX12_here fu r0 309) (P_X12_here_309 r0) := by
  refine T_of (fX12_here.eq_1 ..) ?_
  have u1 := CI_b c0 (k := 309) (j := 3) bd_309_3
  have u2 := CI_b c0 (k := 309) (j := 4) bd_309_4
  refine T_if1 (by decide +kernel) ?_
  refine T_leq (fun x3 e4 => ?_)
  have u5 := CI_b c0 (k := 309) (j := 4) bd_309_4
  refine T_if1 (by decide +kernel) ?_
  refine T_leq (fun x6 e7 => ?_)
  have u8 := CI_b c0 (k := 309) (j := 3) bd_309_3
  refine T_ite (fun h9 => ?_) (fun h9 => ?_)
  · refine T_if1 (by decide +kernel) ?_
    refine T_let 311 (by decide +kernel) ?_
    refine T_if1 (by decide +kernel) ?_
    refine T_leq (fun x10 e11 => ?_)
    have q12 : x3 = x10 := e4.symm.trans e11
    subst q12
    refine T_if1 (z_ixl (n := 300) (by decide +kernel) (by omega) (by omega)) ?_
    refine T_leq (fun x13 e14 => ?_)
    have u15 := CI_b c0 (k := 311) (j := x3) (bdr_311 x3)
    exact sj_X12_here_309_J24 hfu r0 r0 c0 z_Fr.rf x13 (by omega) (by first | assumption | exact y_hr_no (by omega) | exact y_hr_mk (by omega) (by assumption) (by assumption))
  · exact sj_X12_here_309_J24 hfu r0 r0 c0 z_Fr.rf (-1) (by omega) (by first | assumption | exact y_hr_no (by omega) | exact y_hr_mk (by omega) (by assumption) (by assumption))
abbrev R_X12_wrong_309 (a b : Int) : Prop := (a = 309 ∧ (b = 6 ∨ b = 7))
abbrev P_X12_wrong_309 (r0 : z_M) : z_V → z_M → Prop := fun v s' => z_CI s' ∧ z_Fr R_X12_wrong_309 r0 s' ∧ (s' 309 6 ≠ 0) ∧ (v = vN)
theorem sj_X12_wrong_309_J17 {fu : Nat} (hfu : 8589934592 ≤ fu) (r0 s : z_M) (c : z_CI s) (f : z_Fr R_X12_wrong_309 r0 s) (p0 : s 309 6 ≠ 0) : z_T (fX12_wrong_J17 fu s) (P_X12_wrong_309 r0) := by
  refine T_of (fX12_wrong_J17.eq_1 ..) ?_
  have u1 := CI_b c (k := 309) (j := 6) bd_309_6
  exact T_ret ⟨c, f, (by omega), rfl⟩
theorem sf_X12_wrong_309 {fu : Nat} (hfu : 8589934592 ≤ fu) (r0 : z_M) (c0 : z_CI r0) (a1 : Int) (a2 : Int) (b1 : -2147483648 ≤ a1 ∧ a1 ≤ 2147483647) (b2 : -2147483648 ≤ a2 ∧ a2 ≤ 2147483647) (p0 : a1 ≠ 0) : z_T (fX12_wrong fu r0 309 a1 a2) (P_X12_wrong_309 r0) := by
  refine T_of (fX12_wrong.eq_1 ..) ?_
  have u1 := CI_b c0 (k := 309) (j := 6) bd_309_6
  refine T_if1 (by decide +kernel) ?_
  refine T_leq (fun x2 e3 => ?_)
  have u4 := CI_b c0 (k := 309) (j := 6) bd_309_6
  refine T_ite (fun h5 => ?_) (fun h5 => ?_)
  · exact sj_X12_wrong_309_J17 hfu r0 r0 c0 z_Fr.rf (by omega)
  · refine T_if1 (by decide +kernel) ?_
    refine T_upg c0 bd_309_6 (by omega) (fun s6 c7 g9 g10 e11 => ?_)
    have f8 := z_Fr.upf (R := R_X12_wrong_309) z_Fr.rf g9 g10 (⟨rfl, by decide⟩)
    have u12 := CI_b c7 (k := 309) (j := 6) bd_309_6
    refine T_if1 (by decide +kernel) ?_
    refine T_upg c7 bd_309_7 (by omega) (fun s13 c14 g16 g17 e18 => ?_)
    have f15 := z_Fr.upf (R := R_X12_wrong_309) f8 g16 g17 (⟨rfl, by decide⟩)
    have t19 : s13 309 6 = s6 309 6 := g17 6 (by decide)
    exact sj_X12_wrong_309_J17 hfu r0 s13 c14 f15 (by omega)
abbrev R_X12_addsSign_309 (a b : Int) : Prop := (329 ≤ a ∧ a ≤ 329) ∨ (344 ≤ a ∧ a ≤ 344) ∨ (359 ≤ a ∧ a ≤ 359) ∨ (374 ≤ a ∧ a ≤ 374) ∨ (389 ≤ a ∧ a ≤ 389) ∨ (a = 309 ∧ (b = 4 ∨ b = 6 ∨ b = 7))
abbrev P_X12_addsSign_309 (r0 : z_M) : z_V → z_M → Prop := fun v s' => z_CI s' ∧ z_Fr R_X12_addsSign_309 r0 s' ∧ (y_D s' (s' 329 0)) ∧ (s' 329 1 = r0 329 1) ∧ (r0 329 0 ≤ s' 329 0) ∧ (r0 309 4 ≤ s' 309 4) ∧ (s' 309 4 ≤ r0 309 4 + 1) ∧ (s' 309 6 ≠ 0 ∨ (r0 309 6 = 0 ∧ s' 329 0 = r0 329 0 + 1 ∧ s' 309 4 = r0 309 4 + 1)) ∧ (s' 309 4 = r0 309 4 ∨ r0 309 4 < s' 309 3) ∧ (v = vN)
theorem sj_X12_addsSign_309_J103 {fu : Nat} (hfu : 8589934592 ≤ fu) (r0 s : z_M) (c : z_CI s) (f : z_Fr R_X12_addsSign_309 r0 s) (t1 : Int) (t2 : Int) (d1 : 0 ≤ t1 ∧ t1 ≤ 199) (d2 : -2147483648 ≤ t2 ∧ t2 ≤ 2147483647) (p0 : s 329 0 = r0 329 0) (p1 : s 309 4 = r0 309 4) (p2 : s 329 1 = r0 329 1) (p3 : s 329 1 ≤ s 329 0) (p4 : y_D s (t1 + 1)) (p5 : t1 = s 329 0) (p6 : s 309 6 = 0) (p7 : r0 309 6 = 0) (p8 : s 309 4 < s 309 3) : z_T (fX12_addsSign_J103 fu s 309 389 t1 t2) (P_X12_addsSign_309 r0) := by
  refine T_of (fX12_addsSign_J103.eq_1 ..) ?_
  have u1 := CI_b c (k := 309) (j := 3) bd_309_3
  have u2 := CI_b c (k := 309) (j := 4) bd_309_4
  have u3 := CI_b c (k := 309) (j := 6) bd_309_6
  have u4 := CI_b c (k := 329) (j := 0) bd_329_0
  have u5 := CI_b c (k := 329) (j := 1) bd_329_1
  have t6 : s 309 3 = r0 309 3 := f 309 3 (by decide)
  refine T_if1 (z_ixl (n := 200) (by decide +kernel) (by omega) (by omega)) ?_
  refine T_upg c (bdr_389 t1) (by omega) (fun s7 c8 g10 g11 e12 => ?_)
  have f9 := z_Fr.up (R := R_X12_addsSign_309) f g10 (fun _ => (Or.inr (Or.inr (Or.inr (Or.inr (Or.inl (⟨by decide, by decide⟩)))))))
  have t13 : s7 309 3 = s 309 3 := g10 309 3 (by decide)
  have t14 : s7 309 4 = s 309 4 := g10 309 4 (by decide)
  have t15 : s7 309 6 = s 309 6 := g10 309 6 (by decide)
  have t16 : s7 329 0 = s 329 0 := g10 329 0 (by decide)
  have t17 : s7 329 1 = s 329 1 := g10 329 1 (by decide)
  have r18 := y_D.fr p4 (fun b => g10 359 b (by decide)) (fun b => g10 374 b (by decide))
  refine T_if1 (by decide +kernel) ?_
  refine T_let 315 (by decide +kernel) ?_
  refine T_if1 (z_ixl (n := 14) (by decide +kernel) (by omega) (by omega)) ?_
  refine T_let 329 (by decide +kernel) ?_
  refine T_if1 (z_ixl (n := 3) (by decide +kernel) (by omega) (by omega)) ?_
  refine T_leq (fun x19 e20 => ?_)
  have u21 := CI_b c8 (k := 329) (j := 0) bd_329_0
  refine T_leq (fun x22 e23 => ?_)
  first | (have w24 := z_wx e23 (by omega)) | (have w24 := z_wr e23)
  refine T_if1 (z_ixl (n := 3) (by decide +kernel) (by omega) (by omega)) ?_
  refine T_upg c8 bd_329_0 (by omega) (fun s25 c26 g28 g29 e30 => ?_)
  have f27 := z_Fr.up (R := R_X12_addsSign_309) f9 g28 (fun _ => (Or.inl (⟨by decide, by decide⟩)))
  have t31 : s25 309 3 = s 309 3 := (g28 309 3 (by decide)).trans t13
  have t32 : s25 309 4 = s 309 4 := (g28 309 4 (by decide)).trans t14
  have t33 : s25 309 6 = s 309 6 := (g28 309 6 (by decide)).trans t15
  have t34 : s25 329 1 = s 329 1 := (g29 1 (by decide)).trans t17
  have u35 := CI_b c26 (k := 329) (j := 0) bd_329_0
  have r36 := y_D.fr r18 (fun b => g28 359 b (by decide)) (fun b => g28 374 b (by decide))
  clear t13
  clear t14
  clear t15
  clear t17
  refine T_if1 (by decide +kernel) ?_
  refine T_leq (fun x37 e38 => ?_)
  have u39 := CI_b c26 (k := 309) (j := 4) bd_309_4
  refine T_leq (fun x40 e41 => ?_)
  first | (have w42 := z_wx e41 (by omega)) | (have w42 := z_wr e41)
  refine T_if1 (by decide +kernel) ?_
  refine T_upg c26 bd_309_4 (by omega) (fun s43 c44 g46 g47 e48 => ?_)
  have f45 := z_Fr.upf (R := R_X12_addsSign_309) f27 g46 g47 (Or.inr (Or.inr (Or.inr (Or.inr (Or.inr (⟨rfl, by decide⟩))))))
  have t49 : s43 309 3 = s 309 3 := (g47 3 (by decide)).trans t31
  have t50 : s43 309 6 = s 309 6 := (g47 6 (by decide)).trans t33
  have t51 : s43 329 0 = s25 329 0 := g46 329 0 (by decide)
  have t52 : s43 329 1 = s 329 1 := (g46 329 1 (by decide)).trans t34
  have u53 := CI_b c44 (k := 309) (j := 4) bd_309_4
  have r54 := y_D.fr r36 (fun b => g46 359 b (by decide)) (fun b => g46 374 b (by decide))
  clear t31
  clear t33
  clear t34
  exact T_ret ⟨c44, f45, (by first | exact y_D.cg r54 (by omega) | exact y_D.z (by omega) | exact y_D.ex r54 (by omega) (by omega)), (by omega), (by omega), (by omega), (by omega), (by omega), (by omega), rfl⟩
theorem sj_X12_addsSign_309_J90 {fu : Nat} (hfu : 8589934592 ≤ fu) (r0 s : z_M) (c : z_CI s) (f : z_Fr R_X12_addsSign_309 r0 s) (t1 : Int) (d1 : 0 ≤ t1 ∧ t1 ≤ 199) (p0 : s 329 0 = r0 329 0) (p1 : s 309 4 = r0 309 4) (p2 : s 329 1 = r0 329 1) (p3 : s 329 1 ≤ s 329 0) (p4 : y_D s (t1 + 1)) (p5 : t1 = s 329 0) (p6 : s 309 6 = 0) (p7 : r0 309 6 = 0) (p8 : s 309 4 < s 309 3) : z_T (fX12_addsSign_J90 fu s 309 389 t1) (P_X12_addsSign_309 r0) := by
  refine T_of (fX12_addsSign_J90.eq_1 ..) ?_
  have u1 := CI_b c (k := 309) (j := 3) bd_309_3
  have u2 := CI_b c (k := 309) (j := 4) bd_309_4
  have u3 := CI_b c (k := 309) (j := 6) bd_309_6
  have u4 := CI_b c (k := 329) (j := 0) bd_329_0
  have u5 := CI_b c (k := 329) (j := 1) bd_329_1
  have t6 : s 309 3 = r0 309 3 := f 309 3 (by decide)
  refine T_if1 (by decide +kernel) ?_
  refine T_let 315 (by decide +kernel) ?_
  refine T_if1 (z_ixl (n := 14) (by decide +kernel) (by omega) (by omega)) ?_
  refine T_let 329 (by decide +kernel) ?_
  refine T_if1 (z_ixl (n := 3) (by decide +kernel) (by omega) (by omega)) ?_
  refine T_leq (fun x7 e8 => ?_)
  have u9 := CI_b c (k := 329) (j := 2) bd_329_2
  exact sj_X12_addsSign_309_J103 hfu r0 s c f t1 x7 (by omega) (by omega) (by omega) (by omega) (by omega) (by omega) (by first | exact y_D.cg p4 (by omega) | exact y_D.z (by omega) | exact y_D.ex p4 (by omega) (by omega)) (by omega) (by omega) (by omega) (by omega)
theorem sj_X12_addsSign_309_J26 {fu : Nat} (hfu : 8589934592 ≤ fu) (r0 s : z_M) (c : z_CI s) (f : z_Fr R_X12_addsSign_309 r0 s) (a1 : Int) (a2 : Int) (a3 : Int) (b1 : -2147483648 ≤ a1 ∧ a1 ≤ 2147483647) (b2 : (-1) ≤ a2 ∧ a2 ≤ 200) (b3 : 0 ≤ a3 ∧ a3 ≤ 200) (p0 : s 329 0 = r0 329 0) (p1 : s 309 4 = r0 309 4) (p2 : s 329 1 = r0 329 1) (p3 : s 329 1 ≤ s 329 0) (p4 : y_D s (s 329 0)) (p5 : a3 = s 329 0) (p6 : a3 ≤ 199 ∨ s 309 6 ≠ 0) (p7 : s 309 6 ≠ 0 ∨ (r0 309 6 = 0 ∧ s 309 4 < s 309 3)) (p8 : a1 ≠ 7 ∨ 0 ≤ a2) (p9 : a2 ≤ s 329 0) : z_T (fX12_addsSign_J26 fu s 309 a1 a2 a3) (P_X12_addsSign_309 r0) := by
  refine T_of (fX12_addsSign_J26.eq_1 ..) ?_
  have u1 := CI_b c (k := 309) (j := 3) bd_309_3
  have u2 := CI_b c (k := 309) (j := 4) bd_309_4
  have u3 := CI_b c (k := 309) (j := 6) bd_309_6
  have u4 := CI_b c (k := 329) (j := 0) bd_329_0
  have u5 := CI_b c (k := 329) (j := 1) bd_329_1
  have t6 : s 309 3 = r0 309 3 := f 309 3 (by decide)
  refine T_if1 (by decide +kernel) ?_
  refine T_useI (sf_X12_fine_309 hfu s c) (fun v12 s7 hq => ?_)
  obtain ⟨c8, f9, ⟨x11, rfl, b13, b14, o15⟩⟩ := hq
  refine T_vI ?_
  have q16 := z_Fr.eq (fun a b h => h) f9
  subst q16
  refine T_ite (fun h17 => ?_) (fun h17 => ?_)
  · refine T_if1 (by decide +kernel) ?_
    refine T_let 330 (by decide +kernel) ?_
    refine T_if1 (z_ixl (n := 14) (by decide +kernel) (by omega) (by omega)) ?_
    refine T_let 344 (by decide +kernel) ?_
    refine T_if1 (by decide +kernel) ?_
    refine T_let 311 (by decide +kernel) ?_
    refine T_if1 (by decide +kernel) ?_
    refine T_leq (fun x18 e19 => ?_)
    have u20 := CI_b c (k := 309) (j := 4) bd_309_4
    refine T_if1 (z_ixl (n := 300) (by decide +kernel) (by omega) (by omega)) ?_
    refine T_leq (fun x21 e22 => ?_)
    have u23 := CI_b c (k := 311) (j := x18) (bdr_311 x18)
    refine T_if1 (z_ixl (n := 200) (by decide +kernel) (by omega) (by omega)) ?_
    refine T_upg c (bdr_344 a3) (by omega) (fun s24 c25 g27 g28 e29 => ?_)
    have f26 := z_Fr.up (R := R_X12_addsSign_309) f g27 (fun _ => (Or.inr (Or.inl (⟨by decide, by decide⟩))))
    have t30 : s24 309 3 = s 309 3 := g27 309 3 (by decide)
    have t31 : s24 309 4 = x18 := (g27 309 4 (by decide)).trans e19
    have t32 : s24 309 6 = s 309 6 := g27 309 6 (by decide)
    have t33 : s24 329 0 = s 329 0 := g27 329 0 (by decide)
    have t34 : s24 329 1 = s 329 1 := g27 329 1 (by decide)
    have r35 := y_D.fr p4 (fun b => g27 359 b (by decide)) (fun b => g27 374 b (by decide))
    refine T_if1 (by decide +kernel) ?_
    refine T_let 345 (by decide +kernel) ?_
    refine T_if1 (z_ixl (n := 14) (by decide +kernel) (by omega) (by omega)) ?_
    refine T_let 359 (by decide +kernel) ?_
    refine T_if1 (z_ixl (n := 200) (by decide +kernel) (by omega) (by omega)) ?_
    refine T_upg c25 (bdr_359 a3) (by omega) (fun s36 c37 g39 g40 e41 => ?_)
    have f38 := z_Fr.up (R := R_X12_addsSign_309) f26 g39 (fun _ => (Or.inr (Or.inr (Or.inl (⟨by decide, by decide⟩)))))
    have t42 : s36 309 3 = s 309 3 := (g39 309 3 (by decide)).trans t30
    have t43 : s36 309 4 = x18 := (g39 309 4 (by decide)).trans t31
    have t44 : s36 309 6 = s 309 6 := (g39 309 6 (by decide)).trans t32
    have t45 : s36 329 0 = s 329 0 := (g39 329 0 (by decide)).trans t33
    have t46 : s36 329 1 = s 329 1 := (g39 329 1 (by decide)).trans t34
    have r47 := y_D.st r35 (fun b h => g40 b (by omega)) (fun b h => g39 374 b (by decide))
    clear t30
    clear t31
    clear t32
    clear t33
    clear t34
    refine T_if1 (by decide +kernel) ?_
    refine T_let 360 (by decide +kernel) ?_
    refine T_if1 (z_ixl (n := 14) (by decide +kernel) (by omega) (by omega)) ?_
    refine T_let 374 (by decide +kernel) ?_
    refine T_if1 (z_ixl (n := 200) (by decide +kernel) (by omega) (by omega)) ?_
    refine T_upg c37 (bdr_374 a3) (by omega) (fun s48 c49 g51 g52 e53 => ?_)
    have f50 := z_Fr.up (R := R_X12_addsSign_309) f38 g51 (fun _ => (Or.inr (Or.inr (Or.inr (Or.inl (⟨by decide, by decide⟩))))))
    have t54 : s48 309 3 = s 309 3 := (g51 309 3 (by decide)).trans t42
    have t55 : s48 309 4 = x18 := (g51 309 4 (by decide)).trans t43
    have t56 : s48 309 6 = s 309 6 := (g51 309 6 (by decide)).trans t44
    have t57 : s48 329 0 = s 329 0 := (g51 329 0 (by decide)).trans t45
    have t58 : s48 329 1 = s 329 1 := (g51 329 1 (by decide)).trans t46
    have t59 : s48 359 a3 = a1 := by first | exact (g51 359 a3 (by omega)).trans e41 | exact (g52 a3 (by omega)).trans e41
    have r60 : y_D s48 a3 := y_D.cg (y_D.st r47 (fun b h => g51 359 b (by decide)) (fun b h => g52 b (by omega))) (by omega)
    have r61 : y_D s48 (a3 + 1) := y_D.ex r60 (by omega) rfl
    clear t42
    clear t43
    clear t44
    clear t45
    clear t46
    refine T_if1 (by decide +kernel) ?_
    refine T_let 375 (by decide +kernel) ?_
    refine T_if1 (z_ixl (n := 14) (by decide +kernel) (by omega) (by omega)) ?_
    refine T_let 389 (by decide +kernel) ?_
    refine T_ite (fun h62 => ?_) (fun h62 => ?_)
    · exact sj_X12_addsSign_309_J90 hfu r0 s48 c49 f50 a3 (by omega) (by omega) (by omega) (by omega) (by omega) (by first | exact y_D.cg r61 (by omega) | exact y_D.cg r60 (by omega) | exact y_D.z (by omega) | exact y_D.ex r61 (by omega) (by omega) | exact y_D.ex r60 (by omega) (by omega)) (by omega) (by omega) (by omega) (by omega)
    · refine T_ite (fun h63 => ?_) (fun h63 => ?_)
      · exact sj_X12_addsSign_309_J103 hfu r0 s48 c49 f50 a3 0 (by omega) (by omega) (by omega) (by omega) (by omega) (by omega) (by first | exact y_D.cg r61 (by omega) | exact y_D.cg r60 (by omega) | exact y_D.z (by omega) | exact y_D.ex r61 (by omega) (by omega) | exact y_D.ex r60 (by omega) (by omega)) (by omega) (by omega) (by omega) (by omega)
      · exact sj_X12_addsSign_309_J90 hfu r0 s48 c49 f50 a3 (by omega) (by omega) (by omega) (by omega) (by omega) (by first | exact y_D.cg r61 (by omega) | exact y_D.cg r60 (by omega) | exact y_D.z (by omega) | exact y_D.ex r61 (by omega) (by omega) | exact y_D.ex r60 (by omega) (by omega)) (by omega) (by omega) (by omega) (by omega)
  · exact T_ret ⟨c, f, (by first | exact y_D.cg p4 (by omega) | exact y_D.z (by omega) | exact y_D.ex p4 (by omega) (by omega)), (by omega), (by omega), (by omega), (by omega), (by omega), (by omega), rfl⟩
theorem rs_X12_wrong_309__X12_addsSign_309 (a b : Int) (h : R_X12_wrong_309 a b) : R_X12_addsSign_309 a b := (Or.inr (Or.inr (Or.inr (Or.inr (Or.inr (⟨h.1, by omega⟩))))))
theorem nr_X12_wrong_309__359 (b : Int) : ¬ R_X12_wrong_309 359 b := by
  unfold R_X12_wrong_309; omega
theorem nr_X12_wrong_309__374 (b : Int) : ¬ R_X12_wrong_309 374 b := by
  unfold R_X12_wrong_309; omega
theorem sf_X12_addsSign_309 {fu : Nat} (hfu : 8589934592 ≤ fu) (r0 : z_M) (c0 : z_CI r0) (a1 : Int) (a2 : Int) (b1 : -2147483648 ≤ a1 ∧ a1 ≤ 2147483647) (b2 : (-1) ≤ a2 ∧ a2 ≤ 200) (p0 : y_D r0 (r0 329 0)) (p1 : r0 329 1 ≤ r0 329 0) (p2 : r0 309 6 ≠ 0 ∨ r0 309 4 < r0 309 3) (p3 : a1 ≠ 7 ∨ 0 ≤ a2) (p4 : a2 ≤ r0 329 0) : z_T (fX12_addsSign fu r0 309 a1 a2) (P_X12_addsSign_309 r0) := by
  refine T_of (fX12_addsSign.eq_1 ..) ?_
  have u1 := CI_b c0 (k := 309) (j := 3) bd_309_3
  have u2 := CI_b c0 (k := 309) (j := 4) bd_309_4
  have u3 := CI_b c0 (k := 309) (j := 6) bd_309_6
  have u4 := CI_b c0 (k := 329) (j := 0) bd_329_0
  have u5 := CI_b c0 (k := 329) (j := 1) bd_329_1
  refine T_if1 (by decide +kernel) ?_
  refine T_let 315 (by decide +kernel) ?_
  refine T_if1 (z_ixl (n := 14) (by decide +kernel) (by omega) (by omega)) ?_
  refine T_let 329 (by decide +kernel) ?_
  refine T_if1 (z_ixl (n := 3) (by decide +kernel) (by omega) (by omega)) ?_
  refine T_leq (fun x6 e7 => ?_)
  have u8 := CI_b c0 (k := 329) (j := 0) bd_329_0
  refine T_ite (fun h9 => ?_) (fun h9 => ?_)
  · exact sj_X12_addsSign_309_J26 hfu r0 r0 c0 z_Fr.rf a1 a2 x6 (by omega) (by omega) (by omega) (by omega) (by omega) (by omega) (by omega) (by first | exact y_D.cg p0 (by omega) | exact y_D.z (by omega) | exact y_D.ex p0 (by omega) (by omega)) (by omega) (by omega) (by omega) (by omega) (by omega)
  · refine T_if1 (by decide +kernel) ?_
    refine T_leq (fun x10 e11 => ?_)
    have u12 := CI_b c0 (k := 309) (j := 4) bd_309_4
    refine T_if1 (by decide +kernel) ?_
    refine T_useN (sf_X12_wrong_309 hfu r0 c0 2 x10 (by omega) (by omega) (by omega)) (fun v18 s13 hq => ?_)
    obtain ⟨c14, f15, o19, rfl⟩ := hq
    refine T_vN ?_
    have f16 := z_Fr.tr (R := R_X12_addsSign_309) z_Fr.rf f15 rs_X12_wrong_309__X12_addsSign_309
    have t22 : s13 309 3 = r0 309 3 := f15 309 3 (by decide)
    have t23 : s13 309 4 = x10 := (f15 309 4 (by decide)).trans e11
    have t24 : s13 329 0 = r0 329 0 := f15 329 0 (by decide)
    have t25 : s13 329 1 = r0 329 1 := f15 329 1 (by decide)
    have u26 := CI_b c14 (k := 309) (j := 6) bd_309_6
    have r27 := y_D.fr p0 (fun b => f15 359 b (nr_X12_wrong_309__359 b)) (fun b => f15 374 b (nr_X12_wrong_309__374 b))
    exact sj_X12_addsSign_309_J26 hfu r0 s13 c14 f16 a1 a2 x6 (by omega) (by omega) (by omega) (by omega) (by omega) (by omega) (by omega) (by first | exact y_D.cg r27 (by omega) | exact y_D.z (by omega) | exact y_D.ex r27 (by omega) (by omega)) (by omega) (by omega) (by omega) (by omega) (by omega)
abbrev R_X12_readsReading_309 (a b : Int) : Prop := (3020 ≤ a ∧ a ≤ 3219) ∨ (a = 309 ∧ (b = 4 ∨ b = 6 ∨ b = 7))
abbrev P_X12_readsReading_309 (r0 : z_M) : z_V → z_M → Prop := fun v s' => z_CI s' ∧ z_Fr R_X12_readsReading_309 r0 s' ∧ (s' 309 4 ≤ s' 309 3) ∧ (r0 309 4 + 1 ≤ s' 309 4) ∧ (v = vN)
theorem sj_X12_readsReading_309_J83 {fu : Nat} (hfu : 8589934592 ≤ fu) (r0 s : z_M) (c : z_CI s) (f : z_Fr R_X12_readsReading_309 r0 s) (a2 : Int) (a3 : Int) (b2 : 0 ≤ a2 ∧ a2 ≤ 1) (b3 : 3020 ≤ a3 ∧ a3 ≤ 3219) (p0 : s 309 4 ≤ s 309 3) (p1 : r0 309 4 + 1 ≤ s 309 4) (p2 : y_RC s a3 a2) (p3 : s 309 4 < s 309 3) (M : Int) (pm : 303 - s 309 4 ≤ M) {r : z_M → z_O} {k : z_M → z_O} (hr : ∀ (s' : z_M), z_CI s' → z_Fr R_X12_readsReading_309 r0 s' → (s' 309 4 ≤ s' 309 3) → (r0 309 4 + 1 ≤ s' 309 4) → (303 - s' 309 4 < M) → z_T (r s') (P_X12_readsReading_309 r0)) (hk : ∀ (s' : z_M), z_CI s' → z_Fr R_X12_readsReading_309 r0 s' → (s' 309 4 ≤ s' 309 3) → (r0 309 4 + 1 ≤ s' 309 4) → z_T (k s') (P_X12_readsReading_309 r0)) : z_T (fX12_readsReading_J83 fu s 309 a2 a3 r k) (P_X12_readsReading_309 r0) := by
  refine T_of (fX12_readsReading_J83.eq_1 ..) ?_
  have u1 := CI_b c (k := 309) (j := 3) bd_309_3
  have u2 := CI_b c (k := 309) (j := 4) bd_309_4
  have u3 := CI_b c (k := 309) (j := 6) bd_309_6
  have t4 : s 309 3 = r0 309 3 := f 309 3 (by decide)
  refine T_if1 (by decide +kernel) ?_
  refine T_useI (sf_X12_fine_309 hfu s c) (fun v10 s5 hq => ?_)
  obtain ⟨c6, f7, ⟨x9, rfl, b11, b12, o13⟩⟩ := hq
  refine T_vI ?_
  have q14 := z_Fr.eq (fun a b h => h) f7
  subst q14
  refine T_ite (fun h15 => ?_) (fun h15 => ?_)
  · refine T_leq (fun x16 e17 => ?_)
    first | (have w18 := z_wx e17 (by omega)) | (have w18 := z_wr e17)
    refine T_if1 (z_ixs (sh_L13 (by omega)) (by omega) (by omega) (by omega)) ?_
    refine T_leq (fun x19 e20 => ?_)
    have u21 := CI_b c (k := a3) (j := x16) (bd0x (by omega) (by omega))
    have n22 := y_RC.to p2 (v := x19) (by omega) (by assumption) (by omega)
    refine T_leq (fun x23 e24 => ?_)
    first | (have w25 := z_wx e24 (by omega)) | (have w25 := z_wr e24)
    refine T_if1 (z_ixs (sh_L13 (by omega)) (by omega) (by omega) (by omega)) ?_
    refine T_upg c (bd0x (by omega) (by omega)) (by omega) (fun s26 c27 g29 g30 e31 => ?_)
    have f28 := z_Fr.up (R := R_X12_readsReading_309) f g29 (fun b => by unfold R_X12_readsReading_309; omega)
    have t32 : s26 309 3 = s 309 3 := g29 309 3 (by omega)
    have t33 : s26 309 4 = s 309 4 := g29 309 4 (by omega)
    have t34 : s26 309 6 = s 309 6 := g29 309 6 (by omega)
    refine T_leq (fun x35 e36 => ?_)
    have q37 : x16 = x35 := e17.symm.trans e36
    subst q37
    refine T_leq (fun x38 e39 => ?_)
    have q40 : x16 = x38 := e17.symm.trans e39
    subst q40
    refine T_if1 (z_ixs (sh_L13 (by omega)) (by omega) (by omega) (by omega)) ?_
    refine T_leq (fun x41 e42 => ?_)
    have u43 := CI_b c27 (k := a3) (j := x16) (bd0x (by omega) (by omega))
    refine T_leq (fun x44 e45 => ?_)
    first | (have w46 := z_wx e45 (by omega)) | (have w46 := z_wr e45)
    refine T_if1 (by decide +kernel) ?_
    refine T_let 311 (by decide +kernel) ?_
    refine T_if1 (by decide +kernel) ?_
    refine T_leq (fun x47 e48 => ?_)
    have u49 := CI_b c27 (k := 309) (j := 4) bd_309_4
    refine T_if1 (z_ixl (n := 300) (by decide +kernel) (by omega) (by omega)) ?_
    refine T_leq (fun x50 e51 => ?_)
    have u52 := CI_b c27 (k := 311) (j := x47) (bdr_311 x47)
    refine T_if1 (z_ixs (sh_L13 (by omega)) (by omega) (by omega) (by omega)) ?_
    refine T_upg c27 (bd0y (by omega) (by omega)) (by omega) (fun s53 c54 g56 g57 e58 => ?_)
    have f55 := z_Fr.up (R := R_X12_readsReading_309) f28 g56 (fun b => by unfold R_X12_readsReading_309; omega)
    have t59 : s53 309 3 = s 309 3 := (g56 309 3 (by omega)).trans t32
    have t60 : s53 309 4 = x47 := (g56 309 4 (by omega)).trans e48
    have t61 : s53 309 6 = s 309 6 := (g56 309 6 (by omega)).trans t34
    clear t32
    clear t34
    refine T_if1 (by decide +kernel) ?_
    refine T_leq (fun x62 e63 => ?_)
    have q64 : x47 = x62 := t60.symm.trans e63
    subst q64
    refine T_leq (fun x65 e66 => ?_)
    first | (have w67 := z_wx e66 (by omega)) | (have w67 := z_wr e66)
    refine T_if1 (by decide +kernel) ?_
    refine T_upg c54 bd_309_4 (by omega) (fun s68 c69 g71 g72 e73 => ?_)
    have f70 := z_Fr.upf (R := R_X12_readsReading_309) f55 g71 g72 (Or.inr (⟨rfl, by decide⟩))
    have t74 : s68 309 3 = s 309 3 := (g72 3 (by decide)).trans t59
    have t75 : s68 309 6 = s 309 6 := (g72 6 (by decide)).trans t61
    have u76 := CI_b c69 (k := 309) (j := 4) bd_309_4
    clear t59
    clear t61
    exact hr s68 c69 f70 (by omega) (by omega) (by omega)
  · exact T_ret ⟨c, f, (by omega), (by omega), rfl⟩
theorem rs_X12_wrong_309__X12_readsReading_309 (a b : Int) (h : R_X12_wrong_309 a b) : R_X12_readsReading_309 a b := (Or.inr (⟨h.1, by omega⟩))
theorem sl_X12_readsReading_309_L46 {fu : Nat} (hfu : 8589934592 ≤ fu) (r0 : z_M) (a2 : Int) (a3 : Int) (b2 : 0 ≤ a2 ∧ a2 ≤ 1) (b3 : 3020 ≤ a3 ∧ a3 ≤ 3219) {k : z_M → z_O} (hk : ∀ (s' : z_M), z_CI s' → z_Fr R_X12_readsReading_309 r0 s' → (s' 309 4 ≤ s' 309 3) → (r0 309 4 + 1 ≤ s' 309 4) → z_T (k s') (P_X12_readsReading_309 r0)) : ∀ (F : Nat) (s : z_M), z_CI s → z_Fr R_X12_readsReading_309 r0 s → (s 309 4 ≤ s 309 3) → (r0 309 4 + 1 ≤ s 309 4) → (303 - s 309 4 < (F : Int)) → z_T (fX12_readsReading_L46 fu 309 a2 a3 F s k) (P_X12_readsReading_309 r0) := by
  intro F
  induction F with
  | zero =>
    intro s c f i0 i1 hm
    have u60 := CI_b c (k := 309) (j := 3) bd_309_3
    have u61 := CI_b c (k := 309) (j := 4) bd_309_4
    have u62 := CI_b c (k := 309) (j := 6) bd_309_6
    exfalso; omega
  | succ F ih =>
    intro s c f i0 i1 hm
    refine T_of (fX12_readsReading_L46.eq_2 ..) ?_
    have u1 := CI_b c (k := 309) (j := 3) bd_309_3
    have u2 := CI_b c (k := 309) (j := 4) bd_309_4
    have u3 := CI_b c (k := 309) (j := 6) bd_309_6
    have t4 : s 309 3 = r0 309 3 := f 309 3 (by decide)
    refine T_if1 (by decide +kernel) ?_
    refine T_useI (sf_X12_fine_309 hfu s c) (fun v10 s5 hq => ?_)
    obtain ⟨c6, f7, ⟨x9, rfl, b11, b12, o13⟩⟩ := hq
    refine T_vI ?_
    have q14 := z_Fr.eq (fun a b h => h) f7
    subst q14
    refine T_ite (fun h15 => ?_) (fun h15 => ?_)
    · exact hk s c f (by omega) (by omega)
    · refine T_if1 (by decide +kernel) ?_
      refine T_useI (sf_X12_here_309 hfu s c) (fun v21 s16 hq => ?_)
      obtain ⟨c17, f18, ⟨x20, rfl, b22, b23, o24⟩⟩ := hq
      refine T_vI ?_
      have q25 := z_Fr.eq (fun a b h => h) f18
      subst q25
      refine T_useI (sf_X12_isSmall hfu s c x20 (by omega)) (fun v31 s26 hq => ?_)
      obtain ⟨c27, f28, ⟨x30, rfl, b32, b33, o34⟩⟩ := hq
      refine T_vI ?_
      have q35 := z_Fr.eq (fun a b h => h) f28
      subst q35
      refine T_ite (fun h36 => ?_) (fun h36 => ?_)
      · exact hk s c f (by omega) (by omega)
      · have n37 := y_hr_lt s
        refine T_leq (fun x38 e39 => ?_)
        first | (have w40 := z_wx e39 (by omega)) | (have w40 := z_wr e39)
        refine T_if1 (z_ixs (sh_L13 (by omega)) (by omega) (by omega) (by omega)) ?_
        refine T_leq (fun x41 e42 => ?_)
        have u43 := CI_b c (k := a3) (j := x38) (bd0x (by omega) (by omega))
        refine T_ite (fun h44 => ?_) (fun h44 => ?_)
        · exact sj_X12_readsReading_309_J83 hfu r0 s c f a2 a3 (by omega) (by omega) (by omega) (by omega) (by first | exact Or.inl (by omega) | exact y_RC.mk (by assumption) (by omega) (by omega)) (by omega) (303 - s 309 4) (by omega) (fun s'  c' f' z0 z1 pg => ih s'  c' f' z0 z1 (by omega)) hk
        · refine T_if1 (by decide +kernel) ?_
          refine T_leq (fun x45 e46 => ?_)
          have u47 := CI_b c (k := 309) (j := 4) bd_309_4
          refine T_if1 (by decide +kernel) ?_
          refine T_useN (sf_X12_wrong_309 hfu s c 1 x45 (by omega) (by omega) (by omega)) (fun v53 s48 hq => ?_)
          obtain ⟨c49, f50, o54, rfl⟩ := hq
          refine T_vN ?_
          have f51 := z_Fr.tr (R := R_X12_readsReading_309) f f50 rs_X12_wrong_309__X12_readsReading_309
          have t57 : s48 309 3 = s 309 3 := f50 309 3 (by decide)
          have t58 : s48 309 4 = x45 := (f50 309 4 (by decide)).trans e46
          have u59 := CI_b c49 (k := 309) (j := 6) bd_309_6
          exact sj_X12_readsReading_309_J83 hfu r0 s48 c49 f51 a2 a3 (by omega) (by omega) (by omega) (by omega) (by first | exact Or.inl (by omega) | exact y_RC.mk (by assumption) (by omega) (by omega)) (by omega) (303 - s 309 4) (by omega) (fun s'  c' f' z0 z1 pg => ih s'  c' f' z0 z1 (by omega)) hk
theorem sj_X12_readsReading_309_J136 {fu : Nat} (hfu : 8589934592 ≤ fu) (r0 s : z_M) (c : z_CI s) (f : z_Fr R_X12_readsReading_309 r0 s) (p0 : s 309 4 ≤ s 309 3) (p1 : r0 309 4 + 1 ≤ s 309 4) : z_T (fX12_readsReading_J136 fu s) (P_X12_readsReading_309 r0) := by
  refine T_of (fX12_readsReading_J136.eq_1 ..) ?_
  have u1 := CI_b c (k := 309) (j := 3) bd_309_3
  have u2 := CI_b c (k := 309) (j := 4) bd_309_4
  have u3 := CI_b c (k := 309) (j := 6) bd_309_6
  have t4 : s 309 3 = r0 309 3 := f 309 3 (by decide)
  exact T_ret ⟨c, f, (by omega), (by omega), rfl⟩
theorem sf_X12_readsReading_309 {fu : Nat} (hfu : 8589934592 ≤ fu) (r0 : z_M) (c0 : z_CI r0) (a1 : Int) (a2 : Int) (b1 : 0 ≤ a1 ∧ a1 ≤ 199) (b2 : 0 ≤ a2 ∧ a2 ≤ 1) (p0 : r0 309 4 < r0 309 3) : z_T (fX12_readsReading fu r0 309 a1 a2) (P_X12_readsReading_309 r0) := by
  refine T_of (fX12_readsReading.eq_1 ..) ?_
  have u1 := CI_b c0 (k := 309) (j := 3) bd_309_3
  have u2 := CI_b c0 (k := 309) (j := 4) bd_309_4
  have u3 := CI_b c0 (k := 309) (j := 6) bd_309_6
  refine T_if1 (by decide +kernel) ?_
  refine T_let 405 (by decide +kernel) ?_
  refine T_if1 (z_ixl (n := 14) (by decide +kernel) (by omega) (by omega)) ?_
  refine T_let 3019 (by decide +kernel) ?_
  refine T_if1 (z_ixl (n := 200) (by decide +kernel) (by omega) (by omega)) ?_
  refine T_let (3020 + a1) (gr_3019 a1) ?_
  refine T_leq (fun x4 e5 => ?_)
  first | (have w6 := z_wx e5 (by omega)) | (have w6 := z_wr e5)
  refine T_if1 (z_ixs (sh_L13 (by omega)) (by omega) (by omega) (by omega)) ?_
  refine T_upg c0 (bd0x (by omega) (by omega)) (by omega) (fun s7 c8 g10 g11 e12 => ?_)
  have f9 := z_Fr.up (R := R_X12_readsReading_309) z_Fr.rf g10 (fun b => by unfold R_X12_readsReading_309; omega)
  have t13 : s7 309 3 = r0 309 3 := g10 309 3 (by omega)
  have t14 : s7 309 4 = r0 309 4 := g10 309 4 (by omega)
  have t15 : s7 309 6 = r0 309 6 := g10 309 6 (by omega)
  refine T_if1 (by decide +kernel) ?_
  refine T_leq (fun x16 e17 => ?_)
  have u18 := CI_b c8 (k := 309) (j := 4) bd_309_4
  refine T_leq (fun x19 e20 => ?_)
  first | (have w21 := z_wx e20 (by omega)) | (have w21 := z_wr e20)
  refine T_if1 (by decide +kernel) ?_
  refine T_upg c8 bd_309_4 (by omega) (fun s22 c23 g25 g26 e27 => ?_)
  have f24 := z_Fr.upf (R := R_X12_readsReading_309) f9 g25 g26 (Or.inr (⟨rfl, by decide⟩))
  have t28 : s22 309 3 = r0 309 3 := (g26 3 (by decide)).trans t13
  have t29 : s22 309 6 = r0 309 6 := (g26 6 (by decide)).trans t15
  have u30 := CI_b c23 (k := 309) (j := 4) bd_309_4
  clear t13
  clear t15
  refine T_if1 (by decide +kernel) ?_
  refine T_useI (sf_X12_here_309 hfu s22 c23) (fun v36 s31 hq => ?_)
  obtain ⟨c32, f33, ⟨x35, rfl, b37, b38, o39⟩⟩ := hq
  refine T_vI ?_
  have q40 := z_Fr.eq (fun a b h => h) f33
  subst q40
  refine T_useI (sf_X12_isSmall hfu s22 c23 x35 (by omega)) (fun v46 s41 hq => ?_)
  obtain ⟨c42, f43, ⟨x45, rfl, b47, b48, o49⟩⟩ := hq
  refine T_vI ?_
  have q50 := z_Fr.eq (fun a b h => h) f43
  subst q50
  refine T_ite (fun h51 => ?_) (fun h51 => ?_)
  · refine sl_X12_readsReading_309_L46 hfu r0 a2 (3020 + a1) (by omega) (by omega) (fun s52 c53 f54 g55 g56 => ?_) fu s22 c23 f24 (by omega) (by omega) (by omega)
    have u57 := CI_b c53 (k := 309) (j := 3) bd_309_3
    have u58 := CI_b c53 (k := 309) (j := 4) bd_309_4
    have u59 := CI_b c53 (k := 309) (j := 6) bd_309_6
    have t60 : s52 309 3 = r0 309 3 := f54 309 3 (by decide)
    exact sj_X12_readsReading_309_J136 hfu r0 s52 c53 f54 (by omega) (by omega)
  · refine T_if1 (by decide +kernel) ?_
    refine T_leq (fun x61 e62 => ?_)
    have u63 := CI_b c23 (k := 309) (j := 4) bd_309_4
    refine T_if1 (by decide +kernel) ?_
    refine T_useN (sf_X12_wrong_309 hfu s22 c23 1 x61 (by omega) (by omega) (by omega)) (fun v69 s64 hq => ?_)
    obtain ⟨c65, f66, o70, rfl⟩ := hq
    refine T_vN ?_
    have f67 := z_Fr.tr (R := R_X12_readsReading_309) f24 f66 rs_X12_wrong_309__X12_readsReading_309
    have t73 : s64 309 3 = r0 309 3 := (f66 309 3 (by decide)).trans t28
    have t74 : s64 309 4 = x61 := (f66 309 4 (by decide)).trans e62
    have u75 := CI_b c65 (k := 309) (j := 6) bd_309_6
    clear t28
    refine sl_X12_readsReading_309_L46 hfu r0 a2 (3020 + a1) (by omega) (by omega) (fun s76 c77 f78 g79 g80 => ?_) fu s64 c65 f67 (by omega) (by omega) (by omega)
    have u81 := CI_b c77 (k := 309) (j := 3) bd_309_3
    have u82 := CI_b c77 (k := 309) (j := 4) bd_309_4
    have u83 := CI_b c77 (k := 309) (j := 6) bd_309_6
    have t84 : s76 309 3 = r0 309 3 := f78 309 3 (by decide)
    exact sj_X12_readsReading_309_J136 hfu r0 s76 c77 f78 (by omega) (by omega)
abbrev R_X12_readsBase_309 (a b : Int) : Prop := (329 ≤ a ∧ a ≤ 329) ∨ (344 ≤ a ∧ a ≤ 344) ∨ (359 ≤ a ∧ a ≤ 359) ∨ (374 ≤ a ∧ a ≤ 374) ∨ (389 ≤ a ∧ a ≤ 389) ∨ (404 ≤ a ∧ a ≤ 404) ∨ (3020 ≤ a ∧ a ≤ 3219) ∨ (a = 309 ∧ (b = 4 ∨ b = 6 ∨ b = 7))
abbrev P_X12_readsBase_309 (r0 : z_M) : z_V → z_M → Prop := fun v s' => z_CI s' ∧ z_Fr R_X12_readsBase_309 r0 s' ∧ (y_D s' (s' 329 0)) ∧ (s' 329 1 ≤ s' 329 0) ∧ (s' 309 4 ≤ s' 309 3) ∧ (r0 309 4 ≤ s' 309 4) ∧ (r0 329 1 ≤ s' 329 1) ∧ (v = vN)
theorem rs_X12_addsSign_309__X12_readsBase_309 (a b : Int) (h : R_X12_addsSign_309 a b) : R_X12_readsBase_309 a b := (h.elim (fun h => (Or.inl (⟨by omega, by omega⟩))) (fun h => (h.elim (fun h => (Or.inr (Or.inl (⟨by omega, by omega⟩)))) (fun h => (h.elim (fun h => (Or.inr (Or.inr (Or.inl (⟨by omega, by omega⟩))))) (fun h => (h.elim (fun h => (Or.inr (Or.inr (Or.inr (Or.inl (⟨by omega, by omega⟩)))))) (fun h => (h.elim (fun h => (Or.inr (Or.inr (Or.inr (Or.inr (Or.inl (⟨by omega, by omega⟩))))))) (fun h => (Or.inr (Or.inr (Or.inr (Or.inr (Or.inr (Or.inr (Or.inr (⟨h.1, by omega⟩))))))))))))))))))
theorem sj_X12_readsBase_309_J62 {fu : Nat} (hfu : 8589934592 ≤ fu) (r0 s : z_M) (c : z_CI s) (f : z_Fr R_X12_readsBase_309 r0 s) (a1 : Int) (a2 : Int) (a3 : Int) (b1 : 0 ≤ a1 ∧ a1 ≤ 200) (b2 : 0 ≤ a2 ∧ a2 ≤ 200) (b3 : 0 ≤ a3 ∧ a3 ≤ 3) (p0 : y_D s (s 329 0)) (p1 : s 329 1 ≤ s 329 0) (p2 : s 309 4 ≤ s 309 3) (p3 : r0 309 4 ≤ s 309 4) (p4 : r0 329 1 ≤ s 329 1) (p5 : s 309 6 ≠ 0 ∨ a3 ≤ 2) (p6 : a3 ≤ 3) (p7 : s 309 6 ≠ 0 ∨ s 309 4 < s 309 3) (p8 : s 329 1 = a2) (p9 : s 309 6 ≠ 0 ∨ a2 + a3 ≤ s 329 0) (M : Int) (pm : 5 - a3 ≤ M) {r : z_M → Int → z_O} {k : z_M → z_O} (hr : ∀ (s' : z_M) (v3 : Int), z_CI s' → z_Fr R_X12_readsBase_309 r0 s' → (0 ≤ v3 ∧ v3 ≤ 4) → (y_D s' (s' 329 0)) → (s' 329 1 ≤ s' 329 0) → (s' 309 4 ≤ s' 309 3) → (r0 309 4 ≤ s' 309 4) → (r0 329 1 ≤ s' 329 1) → (v3 ≤ 3 ∨ s' 309 6 ≠ 0) → (s' 329 1 = a2) → (s' 309 6 ≠ 0 ∨ a2 + v3 ≤ s' 329 0) → (s' 309 6 ≠ 0 ∨ 1 ≤ v3 ∨ (65 ≤ y_hr s' ∧ y_hr s' ≤ 90)) → (5 - v3 < M) → z_T (r s' v3) (P_X12_readsBase_309 r0)) (hk : ∀ (s' : z_M), z_CI s' → z_Fr R_X12_readsBase_309 r0 s' → (y_D s' (s' 329 0)) → (s' 329 1 ≤ s' 329 0) → (s' 309 4 ≤ s' 309 3) → (r0 309 4 ≤ s' 309 4) → (r0 329 1 ≤ s' 329 1) → (s' 329 1 = a2) → (s' 309 6 ≠ 0 ∨ a2 + 1 ≤ s' 329 0) → z_T (k s') (P_X12_readsBase_309 r0)) : z_T (fX12_readsBase_J62 fu s 309 a1 a2 a3 r k) (P_X12_readsBase_309 r0) := by
  refine T_of (fX12_readsBase_J62.eq_1 ..) ?_
  have u1 := CI_b c (k := 309) (j := 3) bd_309_3
  have u2 := CI_b c (k := 309) (j := 4) bd_309_4
  have u3 := CI_b c (k := 309) (j := 6) bd_309_6
  have u4 := CI_b c (k := 329) (j := 0) bd_329_0
  have u5 := CI_b c (k := 329) (j := 1) bd_329_1
  have t6 : s 309 3 = r0 309 3 := f 309 3 (by decide)
  refine T_if1 (by decide +kernel) ?_
  refine T_useN (sf_X12_addsSign_309 hfu s c 7 a2 (by omega) (by omega) (by first | exact y_D.cg p0 (by omega) | exact y_D.z (by omega) | exact y_D.ex p0 (by omega) (by omega)) (by omega) (by omega) (by omega) (by omega)) (fun v12 s7 hq => ?_)
  obtain ⟨c8, f9, o13, o14, o15, o16, o17, o18, o19, rfl⟩ := hq
  refine T_vN ?_
  have f10 := z_Fr.tr (R := R_X12_readsBase_309) f f9 rs_X12_addsSign_309__X12_readsBase_309
  have t22 : s7 309 3 = s 309 3 := f9 309 3 (by decide)
  have u23 := CI_b c8 (k := 309) (j := 4) bd_309_4
  have u24 := CI_b c8 (k := 309) (j := 6) bd_309_6
  have u25 := CI_b c8 (k := 329) (j := 0) bd_329_0
  have u26 := CI_b c8 (k := 329) (j := 1) bd_329_1
  refine T_leq (fun x27 e28 => ?_)
  first | (have w29 := z_wx e28 (by omega)) | (have w29 := z_wr e28)
  exact hr s7 x27 c8 f10 (by omega) (by first | exact y_D.cg o13 (by omega) | exact y_D.z (by omega) | exact y_D.ex o13 (by omega) (by omega)) (by omega) (by omega) (by omega) (by omega) (by omega) (by omega) (by omega) (by omega) (by omega)
theorem rs_X12_wrong_309__X12_readsBase_309 (a b : Int) (h : R_X12_wrong_309 a b) : R_X12_readsBase_309 a b := (Or.inr (Or.inr (Or.inr (Or.inr (Or.inr (Or.inr (Or.inr (⟨h.1, by omega⟩))))))))
theorem sl_X12_readsBase_309_L31 {fu : Nat} (hfu : 8589934592 ≤ fu) (r0 : z_M) (a1 : Int) (a2 : Int) (b1 : 0 ≤ a1 ∧ a1 ≤ 200) (b2 : 0 ≤ a2 ∧ a2 ≤ 200) (q0 : a1 ≤ a2) {k : z_M → z_O} (hk : ∀ (s' : z_M), z_CI s' → z_Fr R_X12_readsBase_309 r0 s' → (y_D s' (s' 329 0)) → (s' 329 1 ≤ s' 329 0) → (s' 309 4 ≤ s' 309 3) → (r0 309 4 ≤ s' 309 4) → (r0 329 1 ≤ s' 329 1) → (s' 329 1 = a2) → (s' 309 6 ≠ 0 ∨ a2 + 1 ≤ s' 329 0) → z_T (k s') (P_X12_readsBase_309 r0)) : ∀ (F : Nat) (s : z_M) (a3 : Int), z_CI s → z_Fr R_X12_readsBase_309 r0 s → (0 ≤ a3 ∧ a3 ≤ 4) → (y_D s (s 329 0)) → (s 329 1 ≤ s 329 0) → (s 309 4 ≤ s 309 3) → (r0 309 4 ≤ s 309 4) → (r0 329 1 ≤ s 329 1) → (a3 ≤ 3 ∨ s 309 6 ≠ 0) → (s 329 1 = a2) → (s 309 6 ≠ 0 ∨ a2 + a3 ≤ s 329 0) → (s 309 6 ≠ 0 ∨ 1 ≤ a3 ∨ (65 ≤ y_hr s ∧ y_hr s ≤ 90)) → (5 - a3 < (F : Int)) → z_T (fX12_readsBase_L31 fu 309 a1 a2 F s a3 k) (P_X12_readsBase_309 r0) := by
  intro F
  induction F with
  | zero =>
    intro s a3 c f b3 i0 i1 i2 i3 i4 i5 i6 i7 i8 hm
    have u59 := CI_b c (k := 309) (j := 3) bd_309_3
    have u60 := CI_b c (k := 309) (j := 4) bd_309_4
    have u61 := CI_b c (k := 309) (j := 6) bd_309_6
    have u62 := CI_b c (k := 329) (j := 0) bd_329_0
    have u63 := CI_b c (k := 329) (j := 1) bd_329_1
    exfalso; omega
  | succ F ih =>
    intro s a3 c f b3 i0 i1 i2 i3 i4 i5 i6 i7 i8 hm
    refine T_of (fX12_readsBase_L31.eq_2 ..) ?_
    have u1 := CI_b c (k := 309) (j := 3) bd_309_3
    have u2 := CI_b c (k := 309) (j := 4) bd_309_4
    have u3 := CI_b c (k := 309) (j := 6) bd_309_6
    have u4 := CI_b c (k := 329) (j := 0) bd_329_0
    have u5 := CI_b c (k := 329) (j := 1) bd_329_1
    have t6 : s 309 3 = r0 309 3 := f 309 3 (by decide)
    refine T_if1 (by decide +kernel) ?_
    refine T_useI (sf_X12_fine_309 hfu s c) (fun v12 s7 hq => ?_)
    obtain ⟨c8, f9, ⟨x11, rfl, b13, b14, o15⟩⟩ := hq
    refine T_vI ?_
    have q16 := z_Fr.eq (fun a b h => h) f9
    subst q16
    refine T_ite (fun h17 => ?_) (fun h17 => ?_)
    · exact hk s c f (by first | exact y_D.cg i0 (by omega) | exact y_D.z (by omega) | exact y_D.ex i0 (by omega) (by omega)) (by omega) (by omega) (by omega) (by omega) (by omega) (by omega)
    · refine T_if1 (by decide +kernel) ?_
      refine T_useI (sf_X12_here_309 hfu s c) (fun v23 s18 hq => ?_)
      obtain ⟨c19, f20, ⟨x22, rfl, b24, b25, o26⟩⟩ := hq
      refine T_vI ?_
      have q27 := z_Fr.eq (fun a b h => h) f20
      subst q27
      refine T_useI (sf_X12_isBig hfu s c x22 (by omega)) (fun v33 s28 hq => ?_)
      obtain ⟨c29, f30, ⟨x32, rfl, b34, b35, o36⟩⟩ := hq
      refine T_vI ?_
      have q37 := z_Fr.eq (fun a b h => h) f30
      subst q37
      refine T_ite (fun h38 => ?_) (fun h38 => ?_)
      · exact hk s c f (by first | exact y_D.cg i0 (by omega) | exact y_D.z (by omega) | exact y_D.ex i0 (by omega) (by omega)) (by omega) (by omega) (by omega) (by omega) (by omega) (by omega)
      · have n39 := y_hr_lt s
        refine T_ite (fun h40 => ?_) (fun h40 => ?_)
        · exact sj_X12_readsBase_309_J62 hfu r0 s c f a1 a2 a3 (by omega) (by omega) (by omega) (by first | exact y_D.cg i0 (by omega) | exact y_D.z (by omega) | exact y_D.ex i0 (by omega) (by omega)) (by omega) (by omega) (by omega) (by omega) (by omega) (by omega) (by omega) (by omega) (by omega) (5 - a3) (by omega) (fun s' v3 c' f' w3 z0 z1 z2 z3 z4 z5 z6 z7 z8 pg => ih s' v3 c' f' w3 z0 z1 z2 z3 z4 z5 z6 z7 z8 (by omega)) hk
        · refine T_if1 (by decide +kernel) ?_
          refine T_leq (fun x41 e42 => ?_)
          have u43 := CI_b c (k := 309) (j := 4) bd_309_4
          refine T_if1 (by decide +kernel) ?_
          refine T_useN (sf_X12_wrong_309 hfu s c 1 x41 (by omega) (by omega) (by omega)) (fun v49 s44 hq => ?_)
          obtain ⟨c45, f46, o50, rfl⟩ := hq
          refine T_vN ?_
          have f47 := z_Fr.tr (R := R_X12_readsBase_309) f f46 rs_X12_wrong_309__X12_readsBase_309
          have t53 : s44 309 3 = s 309 3 := f46 309 3 (by decide)
          have t54 : s44 309 4 = x41 := (f46 309 4 (by decide)).trans e42
          have t55 : s44 329 0 = s 329 0 := f46 329 0 (by decide)
          have t56 : s44 329 1 = s 329 1 := f46 329 1 (by decide)
          have u57 := CI_b c45 (k := 309) (j := 6) bd_309_6
          have r58 := y_D.fr i0 (fun b => f46 359 b (nr_X12_wrong_309__359 b)) (fun b => f46 374 b (nr_X12_wrong_309__374 b))
          exact sj_X12_readsBase_309_J62 hfu r0 s44 c45 f47 a1 a2 a3 (by omega) (by omega) (by omega) (by first | exact y_D.cg r58 (by omega) | exact y_D.z (by omega) | exact y_D.ex r58 (by omega) (by omega)) (by omega) (by omega) (by omega) (by omega) (by omega) (by omega) (by omega) (by omega) (by omega) (5 - a3) (by omega) (fun s' v3 c' f' w3 z0 z1 z2 z3 z4 z5 z6 z7 z8 pg => ih s' v3 c' f' w3 z0 z1 z2 z3 z4 z5 z6 z7 z8 (by omega)) hk
theorem rs_X12_readsReading_309__X12_readsBase_309 (a b : Int) (h : R_X12_readsReading_309 a b) : R_X12_readsBase_309 a b := (h.elim (fun h => (Or.inr (Or.inr (Or.inr (Or.inr (Or.inr (Or.inr (Or.inl (⟨by omega, by omega⟩))))))))) (fun h => (Or.inr (Or.inr (Or.inr (Or.inr (Or.inr (Or.inr (Or.inr (⟨h.1, by omega⟩))))))))))
theorem nr_X12_readsReading_309__359 (b : Int) : ¬ R_X12_readsReading_309 359 b := by
  unfold R_X12_readsReading_309; omega
theorem nr_X12_readsReading_309__374 (b : Int) : ¬ R_X12_readsReading_309 374 b := by
  unfold R_X12_readsReading_309; omega
theorem sj_X12_readsBase_309_J172 {fu : Nat} (hfu : 8589934592 ≤ fu) (r0 s : z_M) (c : z_CI s) (f : z_Fr R_X12_readsBase_309 r0 s) (p0 : y_D s (s 329 0)) (p1 : s 329 1 ≤ s 329 0) (p2 : s 309 4 ≤ s 309 3) (p3 : r0 309 4 ≤ s 309 4) (p4 : r0 329 1 ≤ s 329 1) : z_T (fX12_readsBase_J172 fu s) (P_X12_readsBase_309 r0) := by
  refine T_of (fX12_readsBase_J172.eq_1 ..) ?_
  have u1 := CI_b c (k := 309) (j := 3) bd_309_3
  have u2 := CI_b c (k := 309) (j := 4) bd_309_4
  have u3 := CI_b c (k := 309) (j := 6) bd_309_6
  have u4 := CI_b c (k := 329) (j := 0) bd_329_0
  have u5 := CI_b c (k := 329) (j := 1) bd_329_1
  have t6 : s 309 3 = r0 309 3 := f 309 3 (by decide)
  exact T_ret ⟨c, f, (by first | exact y_D.cg p0 (by omega) | exact y_D.z (by omega) | exact y_D.ex p0 (by omega) (by omega)), (by omega), (by omega), (by omega), (by omega), rfl⟩
theorem sj_X12_readsBase_309_J100 {fu : Nat} (hfu : 8589934592 ≤ fu) (r0 s : z_M) (c : z_CI s) (f : z_Fr R_X12_readsBase_309 r0 s) (a1 : Int) (a2 : Int) (b1 : 0 ≤ a1 ∧ a1 ≤ 200) (b2 : 0 ≤ a2 ∧ a2 ≤ 200) (p0 : y_D s (s 329 0)) (p1 : s 329 1 ≤ s 329 0) (p2 : s 309 4 ≤ s 309 3) (p3 : r0 309 4 ≤ s 309 4) (p4 : r0 329 1 ≤ s 329 1) (p5 : s 329 1 = a2) (p6 : s 309 6 ≠ 0 ∨ a2 + 1 ≤ s 329 0) (p7 : a1 ≤ a2) (p8 : s 309 6 ≠ 0 ∨ s 309 4 < s 309 3) : z_T (fX12_readsBase_J100 fu s 309 a1 a2) (P_X12_readsBase_309 r0) := by
  refine T_of (fX12_readsBase_J100.eq_1 ..) ?_
  have u1 := CI_b c (k := 309) (j := 3) bd_309_3
  have u2 := CI_b c (k := 309) (j := 4) bd_309_4
  have u3 := CI_b c (k := 309) (j := 6) bd_309_6
  have u4 := CI_b c (k := 329) (j := 0) bd_329_0
  have u5 := CI_b c (k := 329) (j := 1) bd_329_1
  have t6 : s 309 3 = r0 309 3 := f 309 3 (by decide)
  refine T_if1 (by decide +kernel) ?_
  refine T_useI (sf_X12_fine_309 hfu s c) (fun v12 s7 hq => ?_)
  obtain ⟨c8, f9, ⟨x11, rfl, b13, b14, o15⟩⟩ := hq
  refine T_vI ?_
  have q16 := z_Fr.eq (fun a b h => h) f9
  subst q16
  refine T_ite (fun h17 => ?_) (fun h17 => ?_)
  · refine T_if1 (by decide +kernel) ?_
    refine T_let 390 (by decide +kernel) ?_
    refine T_if1 (z_ixl (n := 14) (by decide +kernel) (by omega) (by omega)) ?_
    refine T_let 404 (by decide +kernel) ?_
    refine T_if1 (z_ixl (n := 200) (by decide +kernel) (by omega) (by omega)) ?_
    refine T_upg c (bdg (c := 404) (by omega) (by omega)) (by omega) (fun s18 c19 g21 g22 e23 => ?_)
    have f20 := z_Fr.up (R := R_X12_readsBase_309) f g21 (fun _ => (Or.inr (Or.inr (Or.inr (Or.inr (Or.inr (Or.inl (⟨by decide, by decide⟩))))))))
    have t24 : s18 309 3 = s 309 3 := g21 309 3 (by decide)
    have t25 : s18 309 4 = s 309 4 := g21 309 4 (by decide)
    have t26 : s18 309 6 = s 309 6 := g21 309 6 (by decide)
    have t27 : s18 329 0 = s 329 0 := g21 329 0 (by decide)
    have t28 : s18 329 1 = s 329 1 := g21 329 1 (by decide)
    have r29 := y_D.fr p0 (fun b => g21 359 b (by decide)) (fun b => g21 374 b (by decide))
    refine T_if1 (by decide +kernel) ?_
    refine T_let 405 (by decide +kernel) ?_
    refine T_if1 (z_ixl (n := 14) (by decide +kernel) (by omega) (by omega)) ?_
    refine T_let 3019 (by decide +kernel) ?_
    refine T_if1 (z_ixl (n := 200) (by decide +kernel) (by omega) (by omega)) ?_
    refine T_let (3020 + a2) (gr_3019 a2) ?_
    refine T_if1 (z_ixs (sh_L13 (by omega)) (by omega) (by omega) (by omega)) ?_
    refine T_upg c19 (bds_L13_10 (by omega)) (by omega) (fun s30 c31 g33 g34 e35 => ?_)
    have f32 := z_Fr.up (R := R_X12_readsBase_309) f20 g33 (fun b => by unfold R_X12_readsBase_309; omega)
    have t36 : s30 309 3 = s 309 3 := (g33 309 3 (by omega)).trans t24
    have t37 : s30 309 4 = s 309 4 := (g33 309 4 (by omega)).trans t25
    have t38 : s30 309 6 = s 309 6 := (g33 309 6 (by omega)).trans t26
    have t39 : s30 329 0 = s 329 0 := (g33 329 0 (by omega)).trans t27
    have t40 : s30 329 1 = s 329 1 := (g33 329 1 (by omega)).trans t28
    have r41 := y_D.fr r29 (fun b => g33 359 b (by omega)) (fun b => g33 374 b (by omega))
    clear t24
    clear t25
    clear t26
    clear t27
    clear t28
    refine T_if1 (by decide +kernel) ?_
    refine T_let 315 (by decide +kernel) ?_
    refine T_if1 (z_ixl (n := 14) (by decide +kernel) (by omega) (by omega)) ?_
    refine T_let 329 (by decide +kernel) ?_
    refine T_if1 (z_ixl (n := 3) (by decide +kernel) (by omega) (by omega)) ?_
    refine T_leq (fun x42 e43 => ?_)
    have u44 := CI_b c31 (k := 329) (j := 1) bd_329_1
    refine T_leq (fun x45 e46 => ?_)
    first | (have w47 := z_wx e46 (by omega)) | (have w47 := z_wr e46)
    refine T_if1 (z_ixl (n := 3) (by decide +kernel) (by omega) (by omega)) ?_
    refine T_upg c31 bd_329_1 (by omega) (fun s48 c49 g51 g52 e53 => ?_)
    have f50 := z_Fr.up (R := R_X12_readsBase_309) f32 g51 (fun _ => (Or.inl (⟨by decide, by decide⟩)))
    have t54 : s48 309 3 = s 309 3 := (g51 309 3 (by decide)).trans t36
    have t55 : s48 309 4 = s 309 4 := (g51 309 4 (by decide)).trans t37
    have t56 : s48 309 6 = s 309 6 := (g51 309 6 (by decide)).trans t38
    have t57 : s48 329 0 = s 329 0 := (g52 0 (by decide)).trans t39
    have u58 := CI_b c49 (k := 329) (j := 1) bd_329_1
    have r59 := y_D.fr r41 (fun b => g51 359 b (by decide)) (fun b => g51 374 b (by decide))
    clear t36
    clear t37
    clear t38
    clear t39
    refine T_if1 (by decide +kernel) ?_
    refine T_useN (sf_X12_readsReading_309 hfu s48 c49 a2 0 (by omega) (by omega) (by omega)) (fun v65 s60 hq => ?_)
    obtain ⟨c61, f62, o66, o67, rfl⟩ := hq
    refine T_vN ?_
    have f63 := z_Fr.tr (R := R_X12_readsBase_309) f50 f62 rs_X12_readsReading_309__X12_readsBase_309
    have t70 : s60 309 3 = s 309 3 := (f62 309 3 (by decide)).trans t54
    have t71 : s60 329 0 = s 329 0 := (f62 329 0 (by decide)).trans t57
    have t72 : s60 329 1 = s48 329 1 := f62 329 1 (by decide)
    have u73 := CI_b c61 (k := 309) (j := 4) bd_309_4
    have u74 := CI_b c61 (k := 309) (j := 6) bd_309_6
    have r75 := y_D.fr r59 (fun b => f62 359 b (nr_X12_readsReading_309__359 b)) (fun b => f62 374 b (nr_X12_readsReading_309__374 b))
    clear t54
    clear t57
    refine T_if1 (by decide +kernel) ?_
    refine T_useI (sf_X12_fine_309 hfu s60 c61) (fun v81 s76 hq => ?_)
    obtain ⟨c77, f78, ⟨x80, rfl, b82, b83, o84⟩⟩ := hq
    refine T_vI ?_
    have q85 := z_Fr.eq (fun a b h => h) f78
    subst q85
    refine T_ite (fun h86 => ?_) (fun h86 => ?_)
    · exact sj_X12_readsBase_309_J172 hfu r0 s60 c61 f63 (by first | exact y_D.cg r75 (by omega) | exact y_D.z (by omega) | exact y_D.ex r75 (by omega) (by omega)) (by omega) (by omega) (by omega) (by omega)
    · refine T_if1 (by decide +kernel) ?_
      refine T_useI (sf_X12_here_309 hfu s60 c61) (fun v92 s87 hq => ?_)
      obtain ⟨c88, f89, ⟨x91, rfl, b93, b94, o95⟩⟩ := hq
      refine T_vI ?_
      have q96 := z_Fr.eq (fun a b h => h) f89
      subst q96
      have n97 := y_hr_lt s60
      refine T_ite (fun h98 => ?_) (fun h98 => ?_)
      · exact sj_X12_readsBase_309_J172 hfu r0 s60 c61 f63 (by first | exact y_D.cg r75 (by omega) | exact y_D.z (by omega) | exact y_D.ex r75 (by omega) (by omega)) (by omega) (by omega) (by omega) (by omega)
      · refine T_if1 (by decide +kernel) ?_
        refine T_useN (sf_X12_readsReading_309 hfu s60 c61 a2 1 (by omega) (by omega) (by omega)) (fun v104 s99 hq => ?_)
        obtain ⟨c100, f101, o105, o106, rfl⟩ := hq
        refine T_vN ?_
        have f102 := z_Fr.tr (R := R_X12_readsBase_309) f63 f101 rs_X12_readsReading_309__X12_readsBase_309
        have t109 : s99 309 3 = s 309 3 := (f101 309 3 (by decide)).trans t70
        have t110 : s99 329 0 = s 329 0 := (f101 329 0 (by decide)).trans t71
        have t111 : s99 329 1 = s48 329 1 := (f101 329 1 (by decide)).trans t72
        have u112 := CI_b c100 (k := 309) (j := 4) bd_309_4
        have u113 := CI_b c100 (k := 309) (j := 6) bd_309_6
        have r114 := y_D.fr r75 (fun b => f101 359 b (nr_X12_readsReading_309__359 b)) (fun b => f101 374 b (nr_X12_readsReading_309__374 b))
        clear t70
        clear t71
        clear t72
        exact sj_X12_readsBase_309_J172 hfu r0 s99 c100 f102 (by first | exact y_D.cg r114 (by omega) | exact y_D.z (by omega) | exact y_D.ex r114 (by omega) (by omega)) (by omega) (by omega) (by omega) (by omega)
  · exact T_ret ⟨c, f, (by first | exact y_D.cg p0 (by omega) | exact y_D.z (by omega) | exact y_D.ex p0 (by omega) (by omega)), (by omega), (by omega), (by omega), (by omega), rfl⟩
theorem sj_X12_readsBase_309_J75 {fu : Nat} (hfu : 8589934592 ≤ fu) (r0 s : z_M) (c : z_CI s) (f : z_Fr R_X12_readsBase_309 r0 s) (a1 : Int) (a2 : Int) (b1 : 0 ≤ a1 ∧ a1 ≤ 200) (b2 : 0 ≤ a2 ∧ a2 ≤ 200) (p0 : y_D s (s 329 0)) (p1 : s 329 1 ≤ s 329 0) (p2 : s 309 4 ≤ s 309 3) (p3 : r0 309 4 ≤ s 309 4) (p4 : r0 329 1 ≤ s 329 1) (p5 : s 329 1 = a2) (p6 : s 309 6 ≠ 0 ∨ a2 + 1 ≤ s 329 0) (p7 : a1 ≤ a2) : z_T (fX12_readsBase_J75 fu s 309 a1 a2) (P_X12_readsBase_309 r0) := by
  refine T_of (fX12_readsBase_J75.eq_1 ..) ?_
  have u1 := CI_b c (k := 309) (j := 3) bd_309_3
  have u2 := CI_b c (k := 309) (j := 4) bd_309_4
  have u3 := CI_b c (k := 309) (j := 6) bd_309_6
  have u4 := CI_b c (k := 329) (j := 0) bd_329_0
  have u5 := CI_b c (k := 329) (j := 1) bd_329_1
  have t6 : s 309 3 = r0 309 3 := f 309 3 (by decide)
  refine T_if1 (by decide +kernel) ?_
  refine T_useI (sf_X12_fine_309 hfu s c) (fun v12 s7 hq => ?_)
  obtain ⟨c8, f9, ⟨x11, rfl, b13, b14, o15⟩⟩ := hq
  refine T_vI ?_
  have q16 := z_Fr.eq (fun a b h => h) f9
  subst q16
  refine T_ite (fun h17 => ?_) (fun h17 => ?_)
  · exact sj_X12_readsBase_309_J100 hfu r0 s c f a1 a2 (by omega) (by omega) (by first | exact y_D.cg p0 (by omega) | exact y_D.z (by omega) | exact y_D.ex p0 (by omega) (by omega)) (by omega) (by omega) (by omega) (by omega) (by omega) (by omega) (by omega) (by omega)
  · refine T_if1 (by decide +kernel) ?_
    refine T_useI (sf_X12_here_309 hfu s c) (fun v23 s18 hq => ?_)
    obtain ⟨c19, f20, ⟨x22, rfl, b24, b25, o26⟩⟩ := hq
    refine T_vI ?_
    have q27 := z_Fr.eq (fun a b h => h) f20
    subst q27
    have n28 := y_hr_lt s
    refine T_ite (fun h29 => ?_) (fun h29 => ?_)
    · exact sj_X12_readsBase_309_J100 hfu r0 s c f a1 a2 (by omega) (by omega) (by first | exact y_D.cg p0 (by omega) | exact y_D.z (by omega) | exact y_D.ex p0 (by omega) (by omega)) (by omega) (by omega) (by omega) (by omega) (by omega) (by omega) (by omega) (by omega)
    · refine T_if1 (by decide +kernel) ?_
      refine T_leq (fun x30 e31 => ?_)
      have u32 := CI_b c (k := 309) (j := 4) bd_309_4
      refine T_if1 (by decide +kernel) ?_
      refine T_useN (sf_X12_wrong_309 hfu s c 1 x30 (by omega) (by omega) (by omega)) (fun v38 s33 hq => ?_)
      obtain ⟨c34, f35, o39, rfl⟩ := hq
      refine T_vN ?_
      have f36 := z_Fr.tr (R := R_X12_readsBase_309) f f35 rs_X12_wrong_309__X12_readsBase_309
      have t42 : s33 309 3 = s 309 3 := f35 309 3 (by decide)
      have t43 : s33 309 4 = x30 := (f35 309 4 (by decide)).trans e31
      have t44 : s33 329 0 = s 329 0 := f35 329 0 (by decide)
      have t45 : s33 329 1 = s 329 1 := f35 329 1 (by decide)
      have u46 := CI_b c34 (k := 309) (j := 6) bd_309_6
      have r47 := y_D.fr p0 (fun b => f35 359 b (nr_X12_wrong_309__359 b)) (fun b => f35 374 b (nr_X12_wrong_309__374 b))
      exact sj_X12_readsBase_309_J100 hfu r0 s33 c34 f36 a1 a2 (by omega) (by omega) (by first | exact y_D.cg r47 (by omega) | exact y_D.z (by omega) | exact y_D.ex r47 (by omega) (by omega)) (by omega) (by omega) (by omega) (by omega) (by omega) (by omega) (by omega) (by omega)
theorem sf_X12_readsBase_309 {fu : Nat} (hfu : 8589934592 ≤ fu) (r0 : z_M) (c0 : z_CI r0) (a1 : Int) (b1 : 0 ≤ a1 ∧ a1 ≤ 200) (p0 : y_D r0 (r0 329 0)) (p1 : r0 329 1 ≤ r0 329 0) (p2 : r0 309 4 ≤ r0 309 3) (p3 : a1 ≤ r0 329 1) : z_T (fX12_readsBase fu r0 309 a1) (P_X12_readsBase_309 r0) := by
  refine T_of (fX12_readsBase.eq_1 ..) ?_
  have u1 := CI_b c0 (k := 309) (j := 3) bd_309_3
  have u2 := CI_b c0 (k := 309) (j := 4) bd_309_4
  have u3 := CI_b c0 (k := 309) (j := 6) bd_309_6
  have u4 := CI_b c0 (k := 329) (j := 0) bd_329_0
  have u5 := CI_b c0 (k := 329) (j := 1) bd_329_1
  refine T_if1 (by decide +kernel) ?_
  refine T_let 315 (by decide +kernel) ?_
  refine T_if1 (z_ixl (n := 14) (by decide +kernel) (by omega) (by omega)) ?_
  refine T_let 329 (by decide +kernel) ?_
  refine T_if1 (z_ixl (n := 3) (by decide +kernel) (by omega) (by omega)) ?_
  refine T_leq (fun x6 e7 => ?_)
  have u8 := CI_b c0 (k := 329) (j := 1) bd_329_1
  refine T_if1 (by decide +kernel) ?_
  refine T_useI (sf_X12_here_309 hfu r0 c0) (fun v14 s9 hq => ?_)
  obtain ⟨c10, f11, ⟨x13, rfl, b15, b16, o17⟩⟩ := hq
  refine T_vI ?_
  have q18 := z_Fr.eq (fun a b h => h) f11
  subst q18
  refine T_useI (sf_X12_isBig hfu r0 c0 x13 (by omega)) (fun v24 s19 hq => ?_)
  obtain ⟨c20, f21, ⟨x23, rfl, b25, b26, o27⟩⟩ := hq
  refine T_vI ?_
  have q28 := z_Fr.eq (fun a b h => h) f21
  subst q28
  refine T_ite (fun h29 => ?_) (fun h29 => ?_)
  · refine sl_X12_readsBase_309_L31 hfu r0 a1 x6 (by omega) (by omega) (by omega) (fun s30 c31 f32 g33 g34 g35 g36 g37 g38 g39 => ?_) fu r0 0 c0 z_Fr.rf (by omega) (by first | exact y_D.cg p0 (by omega) | exact y_D.z (by omega) | exact y_D.ex p0 (by omega) (by omega)) (by omega) (by omega) (by omega) (by omega) (by omega) (by omega) (by omega) (by omega) (by omega)
    have u40 := CI_b c31 (k := 309) (j := 3) bd_309_3
    have u41 := CI_b c31 (k := 309) (j := 4) bd_309_4
    have u42 := CI_b c31 (k := 309) (j := 6) bd_309_6
    have u43 := CI_b c31 (k := 329) (j := 0) bd_329_0
    have u44 := CI_b c31 (k := 329) (j := 1) bd_329_1
    have t45 : s30 309 3 = r0 309 3 := f32 309 3 (by decide)
    exact sj_X12_readsBase_309_J75 hfu r0 s30 c31 f32 a1 x6 (by omega) (by omega) (by first | exact y_D.cg g33 (by omega) | exact y_D.z (by omega) | exact y_D.ex g33 (by omega) (by omega)) (by omega) (by omega) (by omega) (by omega) (by omega) (by omega) (by omega)
  · refine T_if1 (by decide +kernel) ?_
    refine T_leq (fun x46 e47 => ?_)
    have u48 := CI_b c0 (k := 309) (j := 4) bd_309_4
    refine T_if1 (by decide +kernel) ?_
    refine T_useN (sf_X12_wrong_309 hfu r0 c0 1 x46 (by omega) (by omega) (by omega)) (fun v54 s49 hq => ?_)
    obtain ⟨c50, f51, o55, rfl⟩ := hq
    refine T_vN ?_
    have f52 := z_Fr.tr (R := R_X12_readsBase_309) z_Fr.rf f51 rs_X12_wrong_309__X12_readsBase_309
    have t58 : s49 309 3 = r0 309 3 := f51 309 3 (by decide)
    have t59 : s49 309 4 = x46 := (f51 309 4 (by decide)).trans e47
    have t60 : s49 329 0 = r0 329 0 := f51 329 0 (by decide)
    have t61 : s49 329 1 = r0 329 1 := f51 329 1 (by decide)
    have u62 := CI_b c50 (k := 309) (j := 6) bd_309_6
    have r63 := y_D.fr p0 (fun b => f51 359 b (nr_X12_wrong_309__359 b)) (fun b => f51 374 b (nr_X12_wrong_309__374 b))
    refine sl_X12_readsBase_309_L31 hfu r0 a1 x6 (by omega) (by omega) (by omega) (fun s64 c65 f66 g67 g68 g69 g70 g71 g72 g73 => ?_) fu s49 0 c50 f52 (by omega) (by first | exact y_D.cg r63 (by omega) | exact y_D.z (by omega) | exact y_D.ex r63 (by omega) (by omega)) (by omega) (by omega) (by omega) (by omega) (by omega) (by omega) (by omega) (by omega) (by omega)
    have u74 := CI_b c65 (k := 309) (j := 3) bd_309_3
    have u75 := CI_b c65 (k := 309) (j := 4) bd_309_4
    have u76 := CI_b c65 (k := 309) (j := 6) bd_309_6
    have u77 := CI_b c65 (k := 329) (j := 0) bd_329_0
    have u78 := CI_b c65 (k := 329) (j := 1) bd_329_1
    have t79 : s64 309 3 = r0 309 3 := f66 309 3 (by decide)
    exact sj_X12_readsBase_309_J75 hfu r0 s64 c65 f66 a1 x6 (by omega) (by omega) (by first | exact y_D.cg g67 (by omega) | exact y_D.z (by omega) | exact y_D.ex g67 (by omega) (by omega)) (by omega) (by omega) (by omega) (by omega) (by omega) (by omega) (by omega)
abbrev R_X12_groupsOf_309 (a b : Int) : Prop := False
abbrev P_X12_groupsOf_309 (r0 : z_M) : z_V → z_M → Prop := fun v s' => z_CI s' ∧ z_Fr R_X12_groupsOf_309 r0 s' ∧ (∃ x, v = vI x ∧ -2147483648 ≤ x ∧ x ≤ 2147483647)
abbrev R_X12_readsGroup_309 (a b : Int) : Prop := (329 ≤ a ∧ a ≤ 329) ∨ (344 ≤ a ∧ a ≤ 344) ∨ (359 ≤ a ∧ a ≤ 359) ∨ (374 ≤ a ∧ a ≤ 374) ∨ (389 ≤ a ∧ a ≤ 389) ∨ (404 ≤ a ∧ a ≤ 404) ∨ (3020 ≤ a ∧ a ≤ 3219) ∨ (a = 309 ∧ (b = 4 ∨ b = 6 ∨ b = 7))
abbrev P_X12_readsGroup_309 (r0 : z_M) : z_V → z_M → Prop := fun v s' => z_CI s' ∧ z_Fr R_X12_readsGroup_309 r0 s' ∧ (y_D s' (s' 329 0)) ∧ (s' 329 1 ≤ s' 329 0) ∧ (r0 309 4 + 1 ≤ s' 309 4) ∧ (s' 309 4 ≤ s' 309 3 + 1) ∧ (v = vN)
theorem rs_X12_readsBase_309__X12_readsGroup_309 (a b : Int) (h : R_X12_readsBase_309 a b) : R_X12_readsGroup_309 a b := (h.elim (fun h => (Or.inl (⟨by omega, by omega⟩))) (fun h => (h.elim (fun h => (Or.inr (Or.inl (⟨by omega, by omega⟩)))) (fun h => (h.elim (fun h => (Or.inr (Or.inr (Or.inl (⟨by omega, by omega⟩))))) (fun h => (h.elim (fun h => (Or.inr (Or.inr (Or.inr (Or.inl (⟨by omega, by omega⟩)))))) (fun h => (h.elim (fun h => (Or.inr (Or.inr (Or.inr (Or.inr (Or.inl (⟨by omega, by omega⟩))))))) (fun h => (h.elim (fun h => (Or.inr (Or.inr (Or.inr (Or.inr (Or.inr (Or.inl (⟨by omega, by omega⟩)))))))) (fun h => (h.elim (fun h => (Or.inr (Or.inr (Or.inr (Or.inr (Or.inr (Or.inr (Or.inl (⟨by omega, by omega⟩))))))))) (fun h => (Or.inr (Or.inr (Or.inr (Or.inr (Or.inr (Or.inr (Or.inr (⟨h.1, by omega⟩))))))))))))))))))))))
theorem sj_X12_readsGroup_309_J76 {fu : Nat} (hfu : 8589934592 ≤ fu) (r0 s : z_M) (c : z_CI s) (f : z_Fr R_X12_readsGroup_309 r0 s) (a1 : Int) (a2 : Int) (b1 : 0 ≤ a1 ∧ a1 ≤ 200) (b2 : 1 ≤ a2 ∧ a2 ≤ 5) (p0 : y_D s (s 329 0)) (p1 : s 329 1 ≤ s 329 0) (p2 : r0 309 4 + 1 ≤ s 309 4) (p3 : s 309 4 ≤ s 309 3) (p4 : a1 ≤ s 329 1) (p5 : s 309 6 ≠ 0 ∨ a2 ≤ 3) (p6 : a2 ≤ 4) (M : Int) (pm : 303 - s 309 4 < M) {r : z_M → Int → z_O} {k : z_M → z_O} (hr : ∀ (s' : z_M) (v2 : Int), z_CI s' → z_Fr R_X12_readsGroup_309 r0 s' → (1 ≤ v2 ∧ v2 ≤ 5) → (y_D s' (s' 329 0)) → (s' 329 1 ≤ s' 329 0) → (r0 309 4 + 1 ≤ s' 309 4) → (s' 309 4 ≤ s' 309 3) → (a1 ≤ s' 329 1) → (v2 ≤ 4 ∨ s' 309 6 ≠ 0) → (303 - s' 309 4 < M) → z_T (r s' v2) (P_X12_readsGroup_309 r0)) (hk : ∀ (s' : z_M), z_CI s' → z_Fr R_X12_readsGroup_309 r0 s' → (y_D s' (s' 329 0)) → (s' 329 1 ≤ s' 329 0) → (r0 309 4 + 1 ≤ s' 309 4) → (s' 309 4 ≤ s' 309 3) → z_T (k s') (P_X12_readsGroup_309 r0)) : z_T (fX12_readsGroup_J76 fu s 309 a1 a2 r k) (P_X12_readsGroup_309 r0) := by
  refine T_of (fX12_readsGroup_J76.eq_1 ..) ?_
  have u1 := CI_b c (k := 309) (j := 3) bd_309_3
  have u2 := CI_b c (k := 309) (j := 4) bd_309_4
  have u3 := CI_b c (k := 309) (j := 6) bd_309_6
  have u4 := CI_b c (k := 329) (j := 0) bd_329_0
  have u5 := CI_b c (k := 329) (j := 1) bd_329_1
  have t6 : s 309 3 = r0 309 3 := f 309 3 (by decide)
  refine T_leq (fun x7 e8 => ?_)
  first | (have w9 := z_wx e8 (by omega)) | (have w9 := z_wr e8)
  exact hr s x7 c f (by omega) (by first | exact y_D.cg p0 (by omega) | exact y_D.z (by omega) | exact y_D.ex p0 (by omega) (by omega)) (by omega) (by omega) (by omega) (by omega) (by omega) (by omega)
theorem sj_X12_readsGroup_309_J64 {fu : Nat} (hfu : 8589934592 ≤ fu) (r0 s : z_M) (c : z_CI s) (f : z_Fr R_X12_readsGroup_309 r0 s) (a1 : Int) (a2 : Int) (b1 : 0 ≤ a1 ∧ a1 ≤ 200) (b2 : 1 ≤ a2 ∧ a2 ≤ 5) (p0 : y_D s (s 329 0)) (p1 : s 329 1 ≤ s 329 0) (p2 : r0 309 4 + 1 ≤ s 309 4) (p3 : s 309 4 ≤ s 309 3) (p4 : a1 ≤ s 329 1) (p5 : s 309 6 ≠ 0 ∨ a2 ≤ 3) (p6 : a2 ≤ 4) (M : Int) (pm : 303 - s 309 4 < M) {r : z_M → Int → z_O} {k : z_M → z_O} (hr : ∀ (s' : z_M) (v2 : Int), z_CI s' → z_Fr R_X12_readsGroup_309 r0 s' → (1 ≤ v2 ∧ v2 ≤ 5) → (y_D s' (s' 329 0)) → (s' 329 1 ≤ s' 329 0) → (r0 309 4 + 1 ≤ s' 309 4) → (s' 309 4 ≤ s' 309 3) → (a1 ≤ s' 329 1) → (v2 ≤ 4 ∨ s' 309 6 ≠ 0) → (303 - s' 309 4 < M) → z_T (r s' v2) (P_X12_readsGroup_309 r0)) (hk : ∀ (s' : z_M), z_CI s' → z_Fr R_X12_readsGroup_309 r0 s' → (y_D s' (s' 329 0)) → (s' 329 1 ≤ s' 329 0) → (r0 309 4 + 1 ≤ s' 309 4) → (s' 309 4 ≤ s' 309 3) → z_T (k s') (P_X12_readsGroup_309 r0)) : z_T (fX12_readsGroup_J64 fu s 309 a1 a2 r k) (P_X12_readsGroup_309 r0) := by
  refine T_of (fX12_readsGroup_J64.eq_1 ..) ?_
  have u1 := CI_b c (k := 309) (j := 3) bd_309_3
  have u2 := CI_b c (k := 309) (j := 4) bd_309_4
  have u3 := CI_b c (k := 309) (j := 6) bd_309_6
  have u4 := CI_b c (k := 329) (j := 0) bd_329_0
  have u5 := CI_b c (k := 329) (j := 1) bd_329_1
  have t6 : s 309 3 = r0 309 3 := f 309 3 (by decide)
  refine T_if1 (by decide +kernel) ?_
  refine T_useI (sf_X12_fine_309 hfu s c) (fun v12 s7 hq => ?_)
  obtain ⟨c8, f9, ⟨x11, rfl, b13, b14, o15⟩⟩ := hq
  refine T_vI ?_
  have q16 := z_Fr.eq (fun a b h => h) f9
  subst q16
  refine T_ite (fun h17 => ?_) (fun h17 => ?_)
  · exact sj_X12_readsGroup_309_J76 hfu r0 s c f a1 a2 (by omega) (by omega) (by first | exact y_D.cg p0 (by omega) | exact y_D.z (by omega) | exact y_D.ex p0 (by omega) (by omega)) (by omega) (by omega) (by omega) (by omega) (by omega) (by omega) M (by omega) (fun s' v2 c' f' w2 z0 z1 z2 z3 z4 z5 pg => hr s' v2 c' f' w2 z0 z1 z2 z3 z4 z5 (by omega)) hk
  · refine T_if1 (by decide +kernel) ?_
    refine T_useN (sf_X12_readsBase_309 hfu s c a1 (by omega) (by first | exact y_D.cg p0 (by omega) | exact y_D.z (by omega) | exact y_D.ex p0 (by omega) (by omega)) (by omega) (by omega) (by omega)) (fun v23 s18 hq => ?_)
    obtain ⟨c19, f20, o24, o25, o26, o27, o28, rfl⟩ := hq
    refine T_vN ?_
    have f21 := z_Fr.tr (R := R_X12_readsGroup_309) f f20 rs_X12_readsBase_309__X12_readsGroup_309
    have t31 : s18 309 3 = s 309 3 := f20 309 3 (by decide)
    have u32 := CI_b c19 (k := 309) (j := 4) bd_309_4
    have u33 := CI_b c19 (k := 309) (j := 6) bd_309_6
    have u34 := CI_b c19 (k := 329) (j := 0) bd_329_0
    have u35 := CI_b c19 (k := 329) (j := 1) bd_329_1
    exact sj_X12_readsGroup_309_J76 hfu r0 s18 c19 f21 a1 a2 (by omega) (by omega) (by first | exact y_D.cg o24 (by omega) | exact y_D.z (by omega) | exact y_D.ex o24 (by omega) (by omega)) (by omega) (by omega) (by omega) (by omega) (by omega) (by omega) M (by omega) (fun s' v2 c' f' w2 z0 z1 z2 z3 z4 z5 pg => hr s' v2 c' f' w2 z0 z1 z2 z3 z4 z5 (by omega)) hk
theorem rs_X12_wrong_309__X12_readsGroup_309 (a b : Int) (h : R_X12_wrong_309 a b) : R_X12_readsGroup_309 a b := (Or.inr (Or.inr (Or.inr (Or.inr (Or.inr (Or.inr (Or.inr (⟨h.1, by omega⟩))))))))
theorem sl_X12_readsGroup_309_L24 {fu : Nat} (hfu : 8589934592 ≤ fu) (r0 : z_M) (a1 : Int) (b1 : 0 ≤ a1 ∧ a1 ≤ 200) {k : z_M → z_O} (hk : ∀ (s' : z_M), z_CI s' → z_Fr R_X12_readsGroup_309 r0 s' → (y_D s' (s' 329 0)) → (s' 329 1 ≤ s' 329 0) → (r0 309 4 + 1 ≤ s' 309 4) → (s' 309 4 ≤ s' 309 3) → z_T (k s') (P_X12_readsGroup_309 r0)) : ∀ (F : Nat) (s : z_M) (a2 : Int), z_CI s → z_Fr R_X12_readsGroup_309 r0 s → (1 ≤ a2 ∧ a2 ≤ 5) → (y_D s (s 329 0)) → (s 329 1 ≤ s 329 0) → (r0 309 4 + 1 ≤ s 309 4) → (s 309 4 ≤ s 309 3) → (a1 ≤ s 329 1) → (a2 ≤ 4 ∨ s 309 6 ≠ 0) → (303 - s 309 4 < (F : Int)) → z_T (fX12_readsGroup_L24 fu 309 a1 F s a2 k) (P_X12_readsGroup_309 r0) := by
  intro F
  induction F with
  | zero =>
    intro s a2 c f b2 i0 i1 i2 i3 i4 i5 hm
    have u67 := CI_b c (k := 309) (j := 3) bd_309_3
    have u68 := CI_b c (k := 309) (j := 4) bd_309_4
    have u69 := CI_b c (k := 309) (j := 6) bd_309_6
    have u70 := CI_b c (k := 329) (j := 0) bd_329_0
    have u71 := CI_b c (k := 329) (j := 1) bd_329_1
    exfalso; omega
  | succ F ih =>
    intro s a2 c f b2 i0 i1 i2 i3 i4 i5 hm
    refine T_of (fX12_readsGroup_L24.eq_2 ..) ?_
    have u1 := CI_b c (k := 309) (j := 3) bd_309_3
    have u2 := CI_b c (k := 309) (j := 4) bd_309_4
    have u3 := CI_b c (k := 309) (j := 6) bd_309_6
    have u4 := CI_b c (k := 329) (j := 0) bd_329_0
    have u5 := CI_b c (k := 329) (j := 1) bd_329_1
    have t6 : s 309 3 = r0 309 3 := f 309 3 (by decide)
    refine T_if1 (by decide +kernel) ?_
    refine T_useI (sf_X12_fine_309 hfu s c) (fun v12 s7 hq => ?_)
    obtain ⟨c8, f9, ⟨x11, rfl, b13, b14, o15⟩⟩ := hq
    refine T_vI ?_
    have q16 := z_Fr.eq (fun a b h => h) f9
    subst q16
    refine T_ite (fun h17 => ?_) (fun h17 => ?_)
    · exact hk s c f (by first | exact y_D.cg i0 (by omega) | exact y_D.z (by omega) | exact y_D.ex i0 (by omega) (by omega)) (by omega) (by omega) (by omega)
    · refine T_if1 (by decide +kernel) ?_
      refine T_useI (sf_X12_here_309 hfu s c) (fun v23 s18 hq => ?_)
      obtain ⟨c19, f20, ⟨x22, rfl, b24, b25, o26⟩⟩ := hq
      refine T_vI ?_
      have q27 := z_Fr.eq (fun a b h => h) f20
      subst q27
      refine T_ite (fun h28 => ?_) (fun h28 => ?_)
      · exact hk s c f (by first | exact y_D.cg i0 (by omega) | exact y_D.z (by omega) | exact y_D.ex i0 (by omega) (by omega)) (by omega) (by omega) (by omega)
      · have n29 := y_hr_lt s
        refine T_if1 (by decide +kernel) ?_
        refine T_leq (fun x30 e31 => ?_)
        have u32 := CI_b c (k := 309) (j := 4) bd_309_4
        refine T_leq (fun x33 e34 => ?_)
        first | (have w35 := z_wx e34 (by omega)) | (have w35 := z_wr e34)
        refine T_if1 (by decide +kernel) ?_
        refine T_upg c bd_309_4 (by omega) (fun s36 c37 g39 g40 e41 => ?_)
        have f38 := z_Fr.upf (R := R_X12_readsGroup_309) f g39 g40 (Or.inr (Or.inr (Or.inr (Or.inr (Or.inr (Or.inr (Or.inr (⟨rfl, by decide⟩))))))))
        have t42 : s36 309 3 = s 309 3 := g40 3 (by decide)
        have t43 : s36 309 6 = s 309 6 := g40 6 (by decide)
        have t44 : s36 329 0 = s 329 0 := g39 329 0 (by decide)
        have t45 : s36 329 1 = s 329 1 := g39 329 1 (by decide)
        have u46 := CI_b c37 (k := 309) (j := 4) bd_309_4
        have r47 := y_D.fr i0 (fun b => g39 359 b (by decide)) (fun b => g39 374 b (by decide))
        refine T_ite (fun h48 => ?_) (fun h48 => ?_)
        · exact sj_X12_readsGroup_309_J64 hfu r0 s36 c37 f38 a1 a2 (by omega) (by omega) (by first | exact y_D.cg r47 (by omega) | exact y_D.z (by omega) | exact y_D.ex r47 (by omega) (by omega)) (by omega) (by omega) (by omega) (by omega) (by omega) (by omega) (303 - s 309 4) (by omega) (fun s' v2 c' f' w2 z0 z1 z2 z3 z4 z5 pg => ih s' v2 c' f' w2 z0 z1 z2 z3 z4 z5 (by omega)) hk
        · refine T_if1 (by decide +kernel) ?_
          refine T_leq (fun x49 e50 => ?_)
          have u51 := CI_b c37 (k := 309) (j := 4) bd_309_4
          refine T_if1 (by decide +kernel) ?_
          refine T_useN (sf_X12_wrong_309 hfu s36 c37 1 x49 (by omega) (by omega) (by omega)) (fun v57 s52 hq => ?_)
          obtain ⟨c53, f54, o58, rfl⟩ := hq
          refine T_vN ?_
          have f55 := z_Fr.tr (R := R_X12_readsGroup_309) f38 f54 rs_X12_wrong_309__X12_readsGroup_309
          have t61 : s52 309 3 = s 309 3 := (f54 309 3 (by decide)).trans t42
          have t62 : s52 309 4 = x49 := (f54 309 4 (by decide)).trans e50
          have t63 : s52 329 0 = s 329 0 := (f54 329 0 (by decide)).trans t44
          have t64 : s52 329 1 = s 329 1 := (f54 329 1 (by decide)).trans t45
          have u65 := CI_b c53 (k := 309) (j := 6) bd_309_6
          have r66 := y_D.fr r47 (fun b => f54 359 b (nr_X12_wrong_309__359 b)) (fun b => f54 374 b (nr_X12_wrong_309__374 b))
          clear t42
          clear t44
          clear t45
          exact sj_X12_readsGroup_309_J64 hfu r0 s52 c53 f55 a1 a2 (by omega) (by omega) (by first | exact y_D.cg r66 (by omega) | exact y_D.z (by omega) | exact y_D.ex r66 (by omega) (by omega)) (by omega) (by omega) (by omega) (by omega) (by omega) (by omega) (303 - s 309 4) (by omega) (fun s' v2 c' f' w2 z0 z1 z2 z3 z4 z5 pg => ih s' v2 c' f' w2 z0 z1 z2 z3 z4 z5 (by omega)) hk
theorem sj_X12_readsGroup_309_J107 {fu : Nat} (hfu : 8589934592 ≤ fu) (r0 s : z_M) (c : z_CI s) (f : z_Fr R_X12_readsGroup_309 r0 s) (p0 : y_D s (s 329 0)) (p1 : s 329 1 ≤ s 329 0) (p2 : r0 309 4 + 1 ≤ s 309 4) (p3 : s 309 4 ≤ s 309 3) : z_T (fX12_readsGroup_J107 fu s 309) (P_X12_readsGroup_309 r0) := by
  refine T_of (fX12_readsGroup_J107.eq_1 ..) ?_
  have u1 := CI_b c (k := 309) (j := 3) bd_309_3
  have u2 := CI_b c (k := 309) (j := 4) bd_309_4
  have u3 := CI_b c (k := 309) (j := 6) bd_309_6
  have u4 := CI_b c (k := 329) (j := 0) bd_329_0
  have u5 := CI_b c (k := 329) (j := 1) bd_329_1
  have t6 : s 309 3 = r0 309 3 := f 309 3 (by decide)
  refine T_if1 (by decide +kernel) ?_
  refine T_leq (fun x7 e8 => ?_)
  have u9 := CI_b c (k := 309) (j := 4) bd_309_4
  refine T_leq (fun x10 e11 => ?_)
  first | (have w12 := z_wx e11 (by omega)) | (have w12 := z_wr e11)
  refine T_if1 (by decide +kernel) ?_
  refine T_upg c bd_309_4 (by omega) (fun s13 c14 g16 g17 e18 => ?_)
  have f15 := z_Fr.upf (R := R_X12_readsGroup_309) f g16 g17 (Or.inr (Or.inr (Or.inr (Or.inr (Or.inr (Or.inr (Or.inr (⟨rfl, by decide⟩))))))))
  have t19 : s13 309 3 = s 309 3 := g17 3 (by decide)
  have t20 : s13 309 6 = s 309 6 := g17 6 (by decide)
  have t21 : s13 329 0 = s 329 0 := g16 329 0 (by decide)
  have t22 : s13 329 1 = s 329 1 := g16 329 1 (by decide)
  have u23 := CI_b c14 (k := 309) (j := 4) bd_309_4
  have r24 := y_D.fr p0 (fun b => g16 359 b (by decide)) (fun b => g16 374 b (by decide))
  exact T_ret ⟨c14, f15, (by first | exact y_D.cg r24 (by omega) | exact y_D.z (by omega) | exact y_D.ex r24 (by omega) (by omega)), (by omega), (by omega), (by omega), rfl⟩
theorem sj_X12_readsGroup_309_J82 {fu : Nat} (hfu : 8589934592 ≤ fu) (r0 s : z_M) (c : z_CI s) (f : z_Fr R_X12_readsGroup_309 r0 s) (p0 : y_D s (s 329 0)) (p1 : s 329 1 ≤ s 329 0) (p2 : r0 309 4 + 1 ≤ s 309 4) (p3 : s 309 4 ≤ s 309 3) : z_T (fX12_readsGroup_J82 fu s 309) (P_X12_readsGroup_309 r0) := by
  refine T_of (fX12_readsGroup_J82.eq_1 ..) ?_
  have u1 := CI_b c (k := 309) (j := 3) bd_309_3
  have u2 := CI_b c (k := 309) (j := 4) bd_309_4
  have u3 := CI_b c (k := 309) (j := 6) bd_309_6
  have u4 := CI_b c (k := 329) (j := 0) bd_329_0
  have u5 := CI_b c (k := 329) (j := 1) bd_329_1
  have t6 : s 309 3 = r0 309 3 := f 309 3 (by decide)
  refine T_if1 (by decide +kernel) ?_
  refine T_useI (sf_X12_fine_309 hfu s c) (fun v12 s7 hq => ?_)
  obtain ⟨c8, f9, ⟨x11, rfl, b13, b14, o15⟩⟩ := hq
  refine T_vI ?_
  have q16 := z_Fr.eq (fun a b h => h) f9
  subst q16
  refine T_ite (fun h17 => ?_) (fun h17 => ?_)
  · exact sj_X12_readsGroup_309_J107 hfu r0 s c f (by first | exact y_D.cg p0 (by omega) | exact y_D.z (by omega) | exact y_D.ex p0 (by omega) (by omega)) (by omega) (by omega) (by omega)
  · refine T_if1 (by decide +kernel) ?_
    refine T_useI (sf_X12_here_309 hfu s c) (fun v23 s18 hq => ?_)
    obtain ⟨c19, f20, ⟨x22, rfl, b24, b25, o26⟩⟩ := hq
    refine T_vI ?_
    have q27 := z_Fr.eq (fun a b h => h) f20
    subst q27
    refine T_ite (fun h28 => ?_) (fun h28 => ?_)
    · exact sj_X12_readsGroup_309_J107 hfu r0 s c f (by first | exact y_D.cg p0 (by omega) | exact y_D.z (by omega) | exact y_D.ex p0 (by omega) (by omega)) (by omega) (by omega) (by omega)
    · refine T_if1 (by decide +kernel) ?_
      refine T_leq (fun x29 e30 => ?_)
      have u31 := CI_b c (k := 309) (j := 4) bd_309_4
      refine T_if1 (by decide +kernel) ?_
      refine T_useN (sf_X12_wrong_309 hfu s c 1 x29 (by omega) (by omega) (by omega)) (fun v37 s32 hq => ?_)
      obtain ⟨c33, f34, o38, rfl⟩ := hq
      refine T_vN ?_
      have f35 := z_Fr.tr (R := R_X12_readsGroup_309) f f34 rs_X12_wrong_309__X12_readsGroup_309
      have t41 : s32 309 3 = s 309 3 := f34 309 3 (by decide)
      have t42 : s32 309 4 = x29 := (f34 309 4 (by decide)).trans e30
      have t43 : s32 329 0 = s 329 0 := f34 329 0 (by decide)
      have t44 : s32 329 1 = s 329 1 := f34 329 1 (by decide)
      have u45 := CI_b c33 (k := 309) (j := 6) bd_309_6
      have r46 := y_D.fr p0 (fun b => f34 359 b (nr_X12_wrong_309__359 b)) (fun b => f34 374 b (nr_X12_wrong_309__374 b))
      exact sj_X12_readsGroup_309_J107 hfu r0 s32 c33 f35 (by first | exact y_D.cg r46 (by omega) | exact y_D.z (by omega) | exact y_D.ex r46 (by omega) (by omega)) (by omega) (by omega) (by omega)
theorem sf_X12_readsGroup_309 {fu : Nat} (hfu : 8589934592 ≤ fu) (r0 : z_M) (c0 : z_CI r0) (p0 : y_D r0 (r0 329 0)) (p1 : r0 329 1 ≤ r0 329 0) (p2 : r0 309 4 < r0 309 3) : z_T (fX12_readsGroup fu r0 309) (P_X12_readsGroup_309 r0) := by
  refine T_of (fX12_readsGroup.eq_1 ..) ?_
  have u1 := CI_b c0 (k := 309) (j := 3) bd_309_3
  have u2 := CI_b c0 (k := 309) (j := 4) bd_309_4
  have u3 := CI_b c0 (k := 309) (j := 6) bd_309_6
  have u4 := CI_b c0 (k := 329) (j := 0) bd_329_0
  have u5 := CI_b c0 (k := 329) (j := 1) bd_329_1
  refine T_if1 (by decide +kernel) ?_
  refine T_bI ?_
  refine T_of (fX12_groupsOf.eq_1 ..) ?_
  refine T_if1 (by decide +kernel) ?_
  refine T_let 315 (by decide +kernel) ?_
  refine T_if1 (z_ixl (n := 14) (by decide +kernel) (by omega) (by omega)) ?_
  refine T_let 329 (by decide +kernel) ?_
  refine T_if1 (z_ixl (n := 3) (by decide +kernel) (by omega) (by omega)) ?_
  refine T_leq (fun x6 e7 => ?_)
  have u8 := CI_b c0 (k := 329) (j := 1) bd_329_1
  refine T_ite (fun h9 => ?_) (fun h9 => ?_)
  · refine T_if1 (by decide +kernel) ?_
    refine T_let 390 (by decide +kernel) ?_
    refine T_if1 (z_ixl (n := 14) (by decide +kernel) (by omega) (by omega)) ?_
    refine T_let 404 (by decide +kernel) ?_
    refine T_if1 (by decide +kernel) ?_
    refine T_let 315 (by decide +kernel) ?_
    refine T_if1 (z_ixl (n := 14) (by decide +kernel) (by omega) (by omega)) ?_
    refine T_let 329 (by decide +kernel) ?_
    refine T_if1 (z_ixl (n := 3) (by decide +kernel) (by omega) (by omega)) ?_
    refine T_leq (fun x10 e11 => ?_)
    have q12 : x6 = x10 := e7.symm.trans e11
    subst q12
    refine T_leq (fun x13 e14 => ?_)
    first | (have w15 := z_wx e14 (by omega)) | (have w15 := z_wr e14)
    refine T_if1 (z_ixl (n := 200) (by decide +kernel) (by omega) (by omega)) ?_
    refine T_leq (fun x16 e17 => ?_)
    have u18 := CI_b c0 (k := 404) (j := x13) (bdg (c := 404) (by omega) (by omega))
    refine T_leq (fun x19 e20 => ?_)
    first | (have w21 := z_wx e20 (by omega)) | (have w21 := z_wr e20)
    refine T_of (fX12_groupsOf_J34.eq_1 ..) ?_
    refine T_rI ?_
    refine T_if1 (by decide +kernel) ?_
    refine T_leq (fun x22 e23 => ?_)
    have u24 := CI_b c0 (k := 309) (j := 4) bd_309_4
    refine T_leq (fun x25 e26 => ?_)
    first | (have w27 := z_wx e26 (by omega)) | (have w27 := z_wr e26)
    refine T_if1 (by decide +kernel) ?_
    refine T_upg c0 bd_309_4 (by omega) (fun s28 c29 g31 g32 e33 => ?_)
    have f30 := z_Fr.upf (R := R_X12_readsGroup_309) z_Fr.rf g31 g32 (Or.inr (Or.inr (Or.inr (Or.inr (Or.inr (Or.inr (Or.inr (⟨rfl, by decide⟩))))))))
    have t34 : s28 309 3 = r0 309 3 := g32 3 (by decide)
    have t35 : s28 309 6 = r0 309 6 := g32 6 (by decide)
    have t36 : s28 329 0 = r0 329 0 := g31 329 0 (by decide)
    have t37 : s28 329 1 = r0 329 1 := g31 329 1 (by decide)
    have u38 := CI_b c29 (k := 309) (j := 4) bd_309_4
    have r39 := y_D.fr p0 (fun b => g31 359 b (by decide)) (fun b => g31 374 b (by decide))
    refine T_if1 (by decide +kernel) ?_
    refine T_useN (sf_X12_readsBase_309 hfu s28 c29 x19 (by omega) (by first | exact y_D.cg r39 (by omega) | exact y_D.z (by omega) | exact y_D.ex r39 (by omega) (by omega)) (by omega) (by omega) (by omega)) (fun v45 s40 hq => ?_)
    obtain ⟨c41, f42, o46, o47, o48, o49, o50, rfl⟩ := hq
    refine T_vN ?_
    have f43 := z_Fr.tr (R := R_X12_readsGroup_309) f30 f42 rs_X12_readsBase_309__X12_readsGroup_309
    have t53 : s40 309 3 = r0 309 3 := (f42 309 3 (by decide)).trans t34
    have u54 := CI_b c41 (k := 309) (j := 4) bd_309_4
    have u55 := CI_b c41 (k := 309) (j := 6) bd_309_6
    have u56 := CI_b c41 (k := 329) (j := 0) bd_329_0
    have u57 := CI_b c41 (k := 329) (j := 1) bd_329_1
    clear t34
    refine sl_X12_readsGroup_309_L24 hfu r0 x19 (by omega) (fun s58 c59 f60 g61 g62 g63 g64 => ?_) fu s40 1 c41 f43 (by omega) (by first | exact y_D.cg o46 (by omega) | exact y_D.z (by omega) | exact y_D.ex o46 (by omega) (by omega)) (by omega) (by omega) (by omega) (by omega) (by omega) (by omega)
    have u65 := CI_b c59 (k := 309) (j := 3) bd_309_3
    have u66 := CI_b c59 (k := 309) (j := 4) bd_309_4
    have u67 := CI_b c59 (k := 309) (j := 6) bd_309_6
    have u68 := CI_b c59 (k := 329) (j := 0) bd_329_0
    have u69 := CI_b c59 (k := 329) (j := 1) bd_329_1
    have t70 : s58 309 3 = r0 309 3 := f60 309 3 (by decide)
    exact sj_X12_readsGroup_309_J82 hfu r0 s58 c59 f60 (by first | exact y_D.cg g61 (by omega) | exact y_D.z (by omega) | exact y_D.ex g61 (by omega) (by omega)) (by omega) (by omega) (by omega)
  · refine T_of (fX12_groupsOf_J34.eq_1 ..) ?_
    refine T_rI ?_
    refine T_if1 (by decide +kernel) ?_
    refine T_leq (fun x71 e72 => ?_)
    have u73 := CI_b c0 (k := 309) (j := 4) bd_309_4
    refine T_leq (fun x74 e75 => ?_)
    first | (have w76 := z_wx e75 (by omega)) | (have w76 := z_wr e75)
    refine T_if1 (by decide +kernel) ?_
    refine T_upg c0 bd_309_4 (by omega) (fun s77 c78 g80 g81 e82 => ?_)
    have f79 := z_Fr.upf (R := R_X12_readsGroup_309) z_Fr.rf g80 g81 (Or.inr (Or.inr (Or.inr (Or.inr (Or.inr (Or.inr (Or.inr (⟨rfl, by decide⟩))))))))
    have t83 : s77 309 3 = r0 309 3 := g81 3 (by decide)
    have t84 : s77 309 6 = r0 309 6 := g81 6 (by decide)
    have t85 : s77 329 0 = r0 329 0 := g80 329 0 (by decide)
    have t86 : s77 329 1 = r0 329 1 := g80 329 1 (by decide)
    have u87 := CI_b c78 (k := 309) (j := 4) bd_309_4
    have r88 := y_D.fr p0 (fun b => g80 359 b (by decide)) (fun b => g80 374 b (by decide))
    refine T_if1 (by decide +kernel) ?_
    refine T_useN (sf_X12_readsBase_309 hfu s77 c78 0 (by omega) (by first | exact y_D.cg r88 (by omega) | exact y_D.z (by omega) | exact y_D.ex r88 (by omega) (by omega)) (by omega) (by omega) (by omega)) (fun v94 s89 hq => ?_)
    obtain ⟨c90, f91, o95, o96, o97, o98, o99, rfl⟩ := hq
    refine T_vN ?_
    have f92 := z_Fr.tr (R := R_X12_readsGroup_309) f79 f91 rs_X12_readsBase_309__X12_readsGroup_309
    have t102 : s89 309 3 = r0 309 3 := (f91 309 3 (by decide)).trans t83
    have u103 := CI_b c90 (k := 309) (j := 4) bd_309_4
    have u104 := CI_b c90 (k := 309) (j := 6) bd_309_6
    have u105 := CI_b c90 (k := 329) (j := 0) bd_329_0
    have u106 := CI_b c90 (k := 329) (j := 1) bd_329_1
    clear t83
    refine sl_X12_readsGroup_309_L24 hfu r0 0 (by omega) (fun s107 c108 f109 g110 g111 g112 g113 => ?_) fu s89 1 c90 f92 (by omega) (by first | exact y_D.cg o95 (by omega) | exact y_D.z (by omega) | exact y_D.ex o95 (by omega) (by omega)) (by omega) (by omega) (by omega) (by omega) (by omega) (by omega)
    have u114 := CI_b c108 (k := 309) (j := 3) bd_309_3
    have u115 := CI_b c108 (k := 309) (j := 4) bd_309_4
    have u116 := CI_b c108 (k := 309) (j := 6) bd_309_6
    have u117 := CI_b c108 (k := 329) (j := 0) bd_329_0
    have u118 := CI_b c108 (k := 329) (j := 1) bd_329_1
    have t119 : s107 309 3 = r0 309 3 := f109 309 3 (by decide)
    exact sj_X12_readsGroup_309_J82 hfu r0 s107 c108 f109 (by first | exact y_D.cg g110 (by omega) | exact y_D.z (by omega) | exact y_D.ex g110 (by omega) (by omega)) (by omega) (by omega) (by omega)
abbrev R_X12_readsPart_309 (a b : Int) : Prop := (329 ≤ a ∧ a ≤ 329) ∨ (344 ≤ a ∧ a ≤ 344) ∨ (359 ≤ a ∧ a ≤ 359) ∨ (374 ≤ a ∧ a ≤ 374) ∨ (389 ≤ a ∧ a ≤ 389) ∨ (404 ≤ a ∧ a ≤ 404) ∨ (3020 ≤ a ∧ a ≤ 3219) ∨ (a = 309 ∧ (b = 4 ∨ b = 6 ∨ b = 7))
abbrev P_X12_readsPart_309 (r0 : z_M) : z_V → z_M → Prop := fun v s' => z_CI s' ∧ z_Fr R_X12_readsPart_309 r0 s' ∧ (y_D s' (s' 329 0)) ∧ (s' 329 1 ≤ s' 329 0) ∧ (s' 309 4 ≤ s' 309 3 + 1) ∧ (r0 309 4 ≤ s' 309 4) ∧ (s' 309 6 ≠ 0 ∨ r0 309 4 + 1 ≤ s' 309 4) ∧ (v = vN)
theorem sj_X12_readsPart_309_J94 {fu : Nat} (hfu : 8589934592 ≤ fu) (r0 s : z_M) (c : z_CI s) (f : z_Fr R_X12_readsPart_309 r0 s) (p0 : y_D s (s 329 0)) (p1 : s 329 1 ≤ s 329 0) (p2 : s 309 4 ≤ s 309 3 + 1) (p3 : r0 309 4 ≤ s 309 4) (p4 : s 309 6 ≠ 0 ∨ r0 309 4 + 1 ≤ s 309 4) : z_T (fX12_readsPart_J94 fu s) (P_X12_readsPart_309 r0) := by
  refine T_of (fX12_readsPart_J94.eq_1 ..) ?_
  have u1 := CI_b c (k := 309) (j := 3) bd_309_3
  have u2 := CI_b c (k := 309) (j := 4) bd_309_4
  have u3 := CI_b c (k := 309) (j := 6) bd_309_6
  have u4 := CI_b c (k := 329) (j := 0) bd_329_0
  have u5 := CI_b c (k := 329) (j := 1) bd_329_1
  have t6 : s 309 3 = r0 309 3 := f 309 3 (by decide)
  exact T_ret ⟨c, f, (by first | exact y_D.cg p0 (by omega) | exact y_D.z (by omega) | exact y_D.ex p0 (by omega) (by omega)), (by omega), (by omega), (by omega), (by omega), rfl⟩
theorem sj_X12_readsPart_309_J57 {fu : Nat} (hfu : 8589934592 ≤ fu) (r0 s : z_M) (c : z_CI s) (f : z_Fr R_X12_readsPart_309 r0 s) (t1 : Int) (t2 : Int) (t3 : Int) (d1 : 2 ≤ t1 ∧ t1 ≤ 2) (d2 : -2147483648 ≤ t2 ∧ t2 ≤ 2147483647) (d3 : 1 ≤ t3 ∧ t3 ≤ 2) (p0 : y_D s (s 329 0)) (p1 : s 329 1 ≤ s 329 0) (p2 : s 309 4 < s 309 3) (p3 : s 309 4 = r0 309 4) : z_T (fX12_readsPart_J57 fu s 309 329 t1 t2 t3) (P_X12_readsPart_309 r0) := by
  refine T_of (fX12_readsPart_J57.eq_1 ..) ?_
  have u1 := CI_b c (k := 309) (j := 3) bd_309_3
  have u2 := CI_b c (k := 309) (j := 4) bd_309_4
  have u3 := CI_b c (k := 309) (j := 6) bd_309_6
  have u4 := CI_b c (k := 329) (j := 0) bd_329_0
  have u5 := CI_b c (k := 329) (j := 1) bd_329_1
  have t6 : s 309 3 = r0 309 3 := f 309 3 (by decide)
  refine T_leq (fun x7 e8 => ?_)
  have w9 : -2147483648 ≤ x7 ∧ x7 ≤ 2147483647 := by rw [← e8]; exact z_i32b _
  refine T_if1 (z_ixl (n := 3) (by decide +kernel) (by omega) (by omega)) ?_
  refine T_upg c (bd329 (by omega)) (by omega) (fun s10 c11 g13 g14 e15 => ?_)
  have f12 := z_Fr.up (R := R_X12_readsPart_309) f g13 (fun _ => (Or.inl (⟨by decide, by decide⟩)))
  have t16 : s10 309 3 = s 309 3 := g13 309 3 (by decide)
  have t17 : s10 309 4 = s 309 4 := g13 309 4 (by decide)
  have t18 : s10 309 6 = s 309 6 := g13 309 6 (by decide)
  have t19 : s10 329 0 = s 329 0 := g14 0 (by omega)
  have t20 : s10 329 1 = s 329 1 := g14 1 (by omega)
  have r21 := y_D.fr p0 (fun b => g13 359 b (by decide)) (fun b => g13 374 b (by decide))
  refine T_if1 (by decide +kernel) ?_
  refine T_leq (fun x22 e23 => ?_)
  have u24 := CI_b c11 (k := 309) (j := 4) bd_309_4
  refine T_leq (fun x25 e26 => ?_)
  first | (have w27 := z_wx e26 (by omega)) | (have w27 := z_wr e26)
  refine T_if1 (by decide +kernel) ?_
  refine T_upg c11 bd_309_4 (by omega) (fun s28 c29 g31 g32 e33 => ?_)
  have f30 := z_Fr.upf (R := R_X12_readsPart_309) f12 g31 g32 (Or.inr (Or.inr (Or.inr (Or.inr (Or.inr (Or.inr (Or.inr (⟨rfl, by decide⟩))))))))
  have t34 : s28 309 3 = s 309 3 := (g32 3 (by decide)).trans t16
  have t35 : s28 309 6 = s 309 6 := (g32 6 (by decide)).trans t18
  have t36 : s28 329 0 = s 329 0 := (g31 329 0 (by decide)).trans t19
  have t37 : s28 329 1 = s 329 1 := (g31 329 1 (by decide)).trans t20
  have u38 := CI_b c29 (k := 309) (j := 4) bd_309_4
  have r39 := y_D.fr r21 (fun b => g31 359 b (by decide)) (fun b => g31 374 b (by decide))
  clear t16
  clear t18
  clear t19
  clear t20
  exact sj_X12_readsPart_309_J94 hfu r0 s28 c29 f30 (by first | exact y_D.cg r39 (by omega) | exact y_D.z (by omega) | exact y_D.ex r39 (by omega) (by omega)) (by omega) (by omega) (by omega) (by omega)
theorem sj_X12_readsPart_309_J36 {fu : Nat} (hfu : 8589934592 ≤ fu) (r0 s : z_M) (c : z_CI s) (f : z_Fr R_X12_readsPart_309 r0 s) (a1 : Int) (b1 : -2147483648 ≤ a1 ∧ a1 ≤ 2147483647) (p0 : y_D s (s 329 0)) (p1 : s 329 1 ≤ s 329 0) (p2 : s 309 4 < s 309 3) (p3 : s 309 4 = r0 309 4) : z_T (fX12_readsPart_J36 fu s 309 a1) (P_X12_readsPart_309 r0) := by
  refine T_of (fX12_readsPart_J36.eq_1 ..) ?_
  have u1 := CI_b c (k := 309) (j := 3) bd_309_3
  have u2 := CI_b c (k := 309) (j := 4) bd_309_4
  have u3 := CI_b c (k := 309) (j := 6) bd_309_6
  have u4 := CI_b c (k := 329) (j := 0) bd_329_0
  have u5 := CI_b c (k := 329) (j := 1) bd_329_1
  have t6 : s 309 3 = r0 309 3 := f 309 3 (by decide)
  refine T_if1 (by decide +kernel) ?_
  refine T_let 315 (by decide +kernel) ?_
  refine T_if1 (z_ixl (n := 14) (by decide +kernel) (by omega) (by omega)) ?_
  refine T_let 329 (by decide +kernel) ?_
  refine T_if1 (z_ixl (n := 3) (by decide +kernel) (by omega) (by omega)) ?_
  refine T_leq (fun x7 e8 => ?_)
  have u9 := CI_b c (k := 329) (j := 2) bd_329_2
  refine T_ite (fun h10 => ?_) (fun h10 => ?_)
  · exact sj_X12_readsPart_309_J57 hfu r0 s c f 2 x7 2 (by omega) (by omega) (by omega) (by first | exact y_D.cg p0 (by omega) | exact y_D.z (by omega) | exact y_D.ex p0 (by omega) (by omega)) (by omega) (by omega) (by omega)
  · exact sj_X12_readsPart_309_J57 hfu r0 s c f 2 x7 1 (by omega) (by omega) (by omega) (by first | exact y_D.cg p0 (by omega) | exact y_D.z (by omega) | exact y_D.ex p0 (by omega) (by omega)) (by omega) (by omega) (by omega)
theorem rs_X12_wrong_309__X12_readsPart_309 (a b : Int) (h : R_X12_wrong_309 a b) : R_X12_readsPart_309 a b := (Or.inr (Or.inr (Or.inr (Or.inr (Or.inr (Or.inr (Or.inr (⟨h.1, by omega⟩))))))))
theorem rs_X12_readsGroup_309__X12_readsPart_309 (a b : Int) (h : R_X12_readsGroup_309 a b) : R_X12_readsPart_309 a b := (h.elim (fun h => (Or.inl (⟨by omega, by omega⟩))) (fun h => (h.elim (fun h => (Or.inr (Or.inl (⟨by omega, by omega⟩)))) (fun h => (h.elim (fun h => (Or.inr (Or.inr (Or.inl (⟨by omega, by omega⟩))))) (fun h => (h.elim (fun h => (Or.inr (Or.inr (Or.inr (Or.inl (⟨by omega, by omega⟩)))))) (fun h => (h.elim (fun h => (Or.inr (Or.inr (Or.inr (Or.inr (Or.inl (⟨by omega, by omega⟩))))))) (fun h => (h.elim (fun h => (Or.inr (Or.inr (Or.inr (Or.inr (Or.inr (Or.inl (⟨by omega, by omega⟩)))))))) (fun h => (h.elim (fun h => (Or.inr (Or.inr (Or.inr (Or.inr (Or.inr (Or.inr (Or.inl (⟨by omega, by omega⟩))))))))) (fun h => (Or.inr (Or.inr (Or.inr (Or.inr (Or.inr (Or.inr (Or.inr (⟨h.1, by omega⟩))))))))))))))))))))))
theorem rs_X12_addsSign_309__X12_readsPart_309 (a b : Int) (h : R_X12_addsSign_309 a b) : R_X12_readsPart_309 a b := (h.elim (fun h => (Or.inl (⟨by omega, by omega⟩))) (fun h => (h.elim (fun h => (Or.inr (Or.inl (⟨by omega, by omega⟩)))) (fun h => (h.elim (fun h => (Or.inr (Or.inr (Or.inl (⟨by omega, by omega⟩))))) (fun h => (h.elim (fun h => (Or.inr (Or.inr (Or.inr (Or.inl (⟨by omega, by omega⟩)))))) (fun h => (h.elim (fun h => (Or.inr (Or.inr (Or.inr (Or.inr (Or.inl (⟨by omega, by omega⟩))))))) (fun h => (Or.inr (Or.inr (Or.inr (Or.inr (Or.inr (Or.inr (Or.inr (⟨h.1, by omega⟩))))))))))))))))))
theorem sf_X12_readsPart_309 {fu : Nat} (hfu : 8589934592 ≤ fu) (r0 : z_M) (c0 : z_CI r0) (p0 : y_D r0 (r0 329 0)) (p1 : r0 329 1 ≤ r0 329 0) (p2 : r0 309 4 < r0 309 3) : z_T (fX12_readsPart fu r0 309) (P_X12_readsPart_309 r0) := by
  refine T_of (fX12_readsPart.eq_1 ..) ?_
  have u1 := CI_b c0 (k := 309) (j := 3) bd_309_3
  have u2 := CI_b c0 (k := 309) (j := 4) bd_309_4
  have u3 := CI_b c0 (k := 309) (j := 6) bd_309_6
  have u4 := CI_b c0 (k := 329) (j := 0) bd_329_0
  have u5 := CI_b c0 (k := 329) (j := 1) bd_329_1
  refine T_if1 (by decide +kernel) ?_
  refine T_useI (sf_X12_here_309 hfu r0 c0) (fun v11 s6 hq => ?_)
  obtain ⟨c7, f8, ⟨x10, rfl, b12, b13, o14⟩⟩ := hq
  refine T_vI ?_
  have q15 := z_Fr.eq (fun a b h => h) f8
  subst q15
  refine T_useI (sf_X12_plainKind hfu r0 c0 x10 (by omega)) (fun v21 s16 hq => ?_)
  obtain ⟨c17, f18, ⟨x20, rfl, b22, b23, o24⟩⟩ := hq
  refine T_vI ?_
  have q25 := z_Fr.eq (fun a b h => h) f18
  subst q25
  refine T_ite (fun h26 => ?_) (fun h26 => ?_)
  · refine T_ite (fun h27 => ?_) (fun h27 => ?_)
    · exact sj_X12_readsPart_309_J36 hfu r0 r0 c0 z_Fr.rf x10 (by omega) (by first | exact y_D.cg p0 (by omega) | exact y_D.z (by omega) | exact y_D.ex p0 (by omega) (by omega)) (by omega) (by omega) (by omega)
    · refine T_ite (fun h28 => ?_) (fun h28 => ?_)
      · refine T_ite (fun h29 => ?_) (fun h29 => ?_)
        · refine T_if1 (by decide +kernel) ?_
          refine T_leq (fun x30 e31 => ?_)
          have u32 := CI_b c0 (k := 309) (j := 4) bd_309_4
          refine T_if1 (by decide +kernel) ?_
          refine T_useN (sf_X12_wrong_309 hfu r0 c0 1 x30 (by omega) (by omega) (by omega)) (fun v38 s33 hq => ?_)
          obtain ⟨c34, f35, o39, rfl⟩ := hq
          refine T_vN ?_
          have f36 := z_Fr.tr (R := R_X12_readsPart_309) z_Fr.rf f35 rs_X12_wrong_309__X12_readsPart_309
          have t42 : s33 309 3 = r0 309 3 := f35 309 3 (by decide)
          have t43 : s33 309 4 = x30 := (f35 309 4 (by decide)).trans e31
          have t44 : s33 329 0 = r0 329 0 := f35 329 0 (by decide)
          have t45 : s33 329 1 = r0 329 1 := f35 329 1 (by decide)
          have u46 := CI_b c34 (k := 309) (j := 6) bd_309_6
          have r47 := y_D.fr p0 (fun b => f35 359 b (nr_X12_wrong_309__359 b)) (fun b => f35 374 b (nr_X12_wrong_309__374 b))
          exact sj_X12_readsPart_309_J94 hfu r0 s33 c34 f36 (by first | exact y_D.cg r47 (by omega) | exact y_D.z (by omega) | exact y_D.ex r47 (by omega) (by omega)) (by omega) (by omega) (by omega) (by omega)
        · refine T_if1 (by decide +kernel) ?_
          refine T_useN (sf_X12_readsGroup_309 hfu r0 c0 (by first | exact y_D.cg p0 (by omega) | exact y_D.z (by omega) | exact y_D.ex p0 (by omega) (by omega)) (by omega) (by omega)) (fun v53 s48 hq => ?_)
          obtain ⟨c49, f50, o54, o55, o56, o57, rfl⟩ := hq
          refine T_vN ?_
          have f51 := z_Fr.tr (R := R_X12_readsPart_309) z_Fr.rf f50 rs_X12_readsGroup_309__X12_readsPart_309
          have t60 : s48 309 3 = r0 309 3 := f50 309 3 (by decide)
          have u61 := CI_b c49 (k := 309) (j := 4) bd_309_4
          have u62 := CI_b c49 (k := 309) (j := 6) bd_309_6
          have u63 := CI_b c49 (k := 329) (j := 0) bd_329_0
          have u64 := CI_b c49 (k := 329) (j := 1) bd_329_1
          exact sj_X12_readsPart_309_J94 hfu r0 s48 c49 f51 (by first | exact y_D.cg o54 (by omega) | exact y_D.z (by omega) | exact y_D.ex o54 (by omega) (by omega)) (by omega) (by omega) (by omega) (by omega)
      · exact sj_X12_readsPart_309_J36 hfu r0 r0 c0 z_Fr.rf x10 (by omega) (by first | exact y_D.cg p0 (by omega) | exact y_D.z (by omega) | exact y_D.ex p0 (by omega) (by omega)) (by omega) (by omega) (by omega)
  · refine T_if1 (by decide +kernel) ?_
    refine T_useN (sf_X12_addsSign_309 hfu r0 c0 x20 (-1) (by omega) (by omega) (by first | exact y_D.cg p0 (by omega) | exact y_D.z (by omega) | exact y_D.ex p0 (by omega) (by omega)) (by omega) (by omega) (by omega) (by omega)) (fun v70 s65 hq => ?_)
    obtain ⟨c66, f67, o71, o72, o73, o74, o75, o76, o77, rfl⟩ := hq
    refine T_vN ?_
    have f68 := z_Fr.tr (R := R_X12_readsPart_309) z_Fr.rf f67 rs_X12_addsSign_309__X12_readsPart_309
    have t80 : s65 309 3 = r0 309 3 := f67 309 3 (by decide)
    have u81 := CI_b c66 (k := 309) (j := 4) bd_309_4
    have u82 := CI_b c66 (k := 309) (j := 6) bd_309_6
    have u83 := CI_b c66 (k := 329) (j := 0) bd_329_0
    have u84 := CI_b c66 (k := 329) (j := 1) bd_329_1
    exact sj_X12_readsPart_309_J94 hfu r0 s65 c66 f68 (by first | exact y_D.cg o71 (by omega) | exact y_D.z (by omega) | exact y_D.ex o71 (by omega) (by omega)) (by omega) (by omega) (by omega) (by omega)
abbrev R_X12_copies_309 (a b : Int) : Prop := (316 ≤ a ∧ a ≤ 404) ∨ (407 ≤ a ∧ a ≤ 3219)
abbrev P_X12_copies_309 (r0 : z_M) (a1 : Int) (a2 : Int) : z_V → z_M → Prop := fun v s' => z_CI s' ∧ z_Fr R_X12_copies_309 r0 s' ∧ (y_CP r0 s' a1 a2 3 200) ∧ (v = vN)
theorem sl_X12_copies_309_L2 {fu : Nat} (hfu : 8589934592 ≤ fu) (r0 : z_M) (a1 : Int) (a2 : Int) (b1 : 0 ≤ a1 ∧ a1 ≤ 13) (b2 : 0 ≤ a2 ∧ a2 ≤ 13) (q0 : a1 ≠ a2) {k : z_M → z_O} (hk : ∀ (s' : z_M), z_CI s' → z_Fr R_X12_copies_309 r0 s' → (y_CP r0 s' a1 a2 3 0) → z_T (k s') (P_X12_copies_309 r0 a1 a2)) : ∀ (F : Nat) (s : z_M) (a3 : Int), z_CI s → z_Fr R_X12_copies_309 r0 s → (0 ≤ a3 ∧ a3 ≤ 3) → (y_CP r0 s a1 a2 a3 0) → (2147483647 - a3 < (F : Int)) → z_T (fX12_copies_L2 fu 309 a1 a2 F s a3 k) (P_X12_copies_309 r0 a1 a2) := by
  intro F
  induction F with
  | zero =>
    intro s a3 c f b3 i0 hm
    exfalso; omega
  | succ F ih =>
    intro s a3 c f b3 i0 hm
    refine T_of (fX12_copies_L2.eq_2 ..) ?_
    refine T_ite (fun h1 => ?_) (fun h1 => ?_)
    · exact hk s c f (by first | exact y_CP.cg i0 (by omega) (by omega) | exact y_CP.z (by omega) (by omega))
    · refine T_if1 (by decide +kernel) ?_
      refine T_let 315 (by decide +kernel) ?_
      refine T_if1 (z_ixl (n := 14) (by decide +kernel) (by omega) (by omega)) ?_
      refine T_let (316 + a2) (gr_315 a2) ?_
      refine T_if1 (by decide +kernel) ?_
      refine T_let 315 (by decide +kernel) ?_
      refine T_if1 (z_ixl (n := 14) (by decide +kernel) (by omega) (by omega)) ?_
      refine T_let (316 + a1) (gr_315 a1) ?_
      refine T_if1 (z_ixs (sh_r315 (by omega)) (by omega) (by omega) (by omega)) ?_
      refine T_leq (fun x2 e3 => ?_)
      have u4 := CI_w c (k := (316 + a1)) (j := a3) (by rw [sh_r315 (by omega)]; decide)
      have n5 := (y_CP.src i0 (by omega) (by omega) a3).1
      refine T_if1 (z_ixs (sh_r315 (by omega)) (by omega) (by omega) (by omega)) ?_
      refine T_upg c (z_bdH (t2 := a1) (by omega) (by omega) (by omega)) (by rw [← (by assumption : s (316 + a1) a3 = x2)]; exact c _ _) (fun s6 c7 g9 g10 e11 => ?_)
      have f8 := z_Fr.up (R := R_X12_copies_309) f g9 (fun b => by unfold R_X12_copies_309; omega)
      have r12 : y_CP r0 s6 a1 a2 (a3 + 1) 0 := y_CP.exn (y_CP.st (by omega) i0 (fun b h => g10 b (by omega)) (fun b h => g9 _ b (by omega)) (fun b h => g9 _ b (by omega)) (fun a b h1 h2 h3 => g9 a b h1)) (by omega) rfl
      refine T_leq (fun x13 e14 => ?_)
      first | (have w15 := z_wx e14 (by omega)) | (have w15 := z_wr e14)
      exact ih s6 x13 c7 f8 (by omega) (by first | exact y_CP.cg r12 (by omega) (by omega) | exact y_CP.z (by omega) (by omega)) (by omega)
theorem sl_X12_copies_309_L121 {fu : Nat} (hfu : 8589934592 ≤ fu) (r0 : z_M) (a1 : Int) (a2 : Int) (a3 : Int) (b1 : 0 ≤ a1 ∧ a1 ≤ 13) (b2 : 0 ≤ a2 ∧ a2 ≤ 13) (b3 : 0 ≤ a3 ∧ a3 ≤ 199) (q0 : a1 ≠ a2) {k : z_M → z_O} (hk : ∀ (s' : z_M), z_CI s' → z_Fr R_X12_copies_309 r0 s' → (y_CP r0 s' a1 a2 3 (a3 + 1)) → z_T (k s') (P_X12_copies_309 r0 a1 a2)) : ∀ (F : Nat) (s : z_M) (a4 : Int), z_CI s → z_Fr R_X12_copies_309 r0 s → (0 ≤ a4 ∧ a4 ≤ 20) → (y_CP r0 s a1 a2 3 (a3 + 1)) → (2147483647 - a4 < (F : Int)) → z_T (fX12_copies_L121 fu 309 a1 a2 a3 F s a4 k) (P_X12_copies_309 r0 a1 a2) := by
  intro F
  induction F with
  | zero =>
    intro s a4 c f b4 i0 hm
    exfalso; omega
  | succ F ih =>
    intro s a4 c f b4 i0 hm
    refine T_of (fX12_copies_L121.eq_2 ..) ?_
    refine T_ite (fun h1 => ?_) (fun h1 => ?_)
    · exact hk s c f (by first | exact y_CP.cg i0 (by omega) (by omega) | exact y_CP.z (by omega) (by omega))
    · refine T_if1 (by decide +kernel) ?_
      refine T_let 315 (by decide +kernel) ?_
      refine T_if1 (z_ixl (n := 14) (by decide +kernel) (by omega) (by omega)) ?_
      refine T_let (316 + a1) (gr_315 a1) ?_
      refine T_if1 (z_ixs (sh_r315 (by omega)) (by omega) (by omega) (by omega)) ?_
      refine T_leq (fun x2 e3 => ?_)
      have u4 := CI_b c (k := (316 + a1)) (j := 1) (bds_r315_1 (by omega))
      refine T_ite (fun h5 => ?_) (fun h5 => ?_)
      · exact hk s c f (by first | exact y_CP.cg i0 (by omega) (by omega) | exact y_CP.z (by omega) (by omega))
      · refine T_if1 (by decide +kernel) ?_
        refine T_let 405 (by decide +kernel) ?_
        refine T_if1 (z_ixl (n := 14) (by decide +kernel) (by omega) (by omega)) ?_
        refine T_let (406 + 201 * a2) (z_gr405 a2) ?_
        refine T_if1 (z_ixs (z_shL1 (t := a2) (by omega)) (by omega) (by omega) (by omega)) ?_
        refine T_let (407 + 201 * a2 + a3) (z_grL (by omega)) ?_
        refine T_if1 (by decide +kernel) ?_
        refine T_let 405 (by decide +kernel) ?_
        refine T_if1 (z_ixl (n := 14) (by decide +kernel) (by omega) (by omega)) ?_
        refine T_let (406 + 201 * a1) (z_gr405 a1) ?_
        refine T_if1 (z_ixs (z_shL1 (t := a1) (by omega)) (by omega) (by omega) (by omega)) ?_
        refine T_let (407 + 201 * a1 + a3) (z_grL (by omega)) ?_
        refine T_if1 (z_ixs (z_shL2 (t := a1) (k := a3) (by omega) (by omega)) (by omega) (by omega) (by omega)) ?_
        refine T_leq (fun x6 e7 => ?_)
        have u8 := CI_w c (k := (407 + 201 * a1 + a3)) (j := a4) (by rw [z_shL2 (by omega) (by omega)]; decide)
        refine T_if1 (z_ixs (z_shL2 (t := a2) (k := a3) (by omega) (by omega)) (by omega) (by omega) (by omega)) ?_
        refine T_upg c (z_bdLe (c2 := 407 + 201 * a1 + a3) (by omega) (by omega)) (by rw [← (by assumption : s (407 + 201 * a1 + a3) a4 = x6)]; exact c _ _) (fun s9 c10 g12 g13 e14 => ?_)
        have f11 := z_Fr.up (R := R_X12_copies_309) f g12 (fun b => by unfold R_X12_copies_309; omega)
        have r15 := y_CP.fr (by omega) i0 (fun a b h => g12 a b (by omega)) (fun a b h => g12 a b (by omega)) (fun a b h => g12 a b (by omega))
        refine T_leq (fun x16 e17 => ?_)
        first | (have w18 := z_wx e17 (by omega)) | (have w18 := z_wr e17)
        exact ih s9 x16 c10 f11 (by omega) (by first | exact y_CP.cg r15 (by omega) (by omega) | exact y_CP.z (by omega) (by omega)) (by omega)
theorem sj_X12_copies_309_J168 {fu : Nat} (hfu : 8589934592 ≤ fu) (r0 s : z_M) (c : z_CI s) (f : z_Fr R_X12_copies_309 r0 s) (a1 : Int) (a2 : Int) (a3 : Int) (b1 : 0 ≤ a1 ∧ a1 ≤ 13) (b2 : 0 ≤ a2 ∧ a2 ≤ 13) (b3 : 0 ≤ a3 ∧ a3 ≤ 199) (p0 : y_CP r0 s a1 a2 3 (a3 + 1)) (M : Int) (pm : 2147483647 - a3 ≤ M) {r : z_M → Int → z_O} {k : z_M → z_O} (hr : ∀ (s' : z_M) (v3 : Int), z_CI s' → z_Fr R_X12_copies_309 r0 s' → (0 ≤ v3 ∧ v3 ≤ 200) → (y_CP r0 s' a1 a2 3 v3) → (2147483647 - v3 < M) → z_T (r s' v3) (P_X12_copies_309 r0 a1 a2)) (hk : ∀ (s' : z_M), z_CI s' → z_Fr R_X12_copies_309 r0 s' → (y_CP r0 s' a1 a2 3 200) → z_T (k s') (P_X12_copies_309 r0 a1 a2)) : z_T (fX12_copies_J168 fu s 309 a1 a2 a3 r k) (P_X12_copies_309 r0 a1 a2) := by
  refine T_of (fX12_copies_J168.eq_1 ..) ?_
  refine T_leq (fun x1 e2 => ?_)
  first | (have w3 := z_wx e2 (by omega)) | (have w3 := z_wr e2)
  exact hr s x1 c f (by omega) (by first | exact y_CP.cg p0 (by omega) (by omega) | exact y_CP.z (by omega) (by omega)) (by omega)
theorem sl_X12_copies_309_L31 {fu : Nat} (hfu : 8589934592 ≤ fu) (r0 : z_M) (a1 : Int) (a2 : Int) (b1 : 0 ≤ a1 ∧ a1 ≤ 13) (b2 : 0 ≤ a2 ∧ a2 ≤ 13) (q0 : a1 ≠ a2) {k : z_M → z_O} (hk : ∀ (s' : z_M), z_CI s' → z_Fr R_X12_copies_309 r0 s' → (y_CP r0 s' a1 a2 3 200) → z_T (k s') (P_X12_copies_309 r0 a1 a2)) : ∀ (F : Nat) (s : z_M) (a3 : Int), z_CI s → z_Fr R_X12_copies_309 r0 s → (0 ≤ a3 ∧ a3 ≤ 200) → (y_CP r0 s a1 a2 3 a3) → (2147483647 - a3 < (F : Int)) → z_T (fX12_copies_L31 fu 309 a1 a2 F s a3 k) (P_X12_copies_309 r0 a1 a2) := by
  intro F
  induction F with
  | zero =>
    intro s a3 c f b3 i0 hm
    exfalso; omega
  | succ F ih =>
    intro s a3 c f b3 i0 hm
    refine T_of (fX12_copies_L31.eq_2 ..) ?_
    refine T_ite (fun h1 => ?_) (fun h1 => ?_)
    · exact hk s c f (by first | exact y_CP.cg i0 (by omega) (by omega) | exact y_CP.z (by omega) (by omega))
    · refine T_if1 (by decide +kernel) ?_
      refine T_let 330 (by decide +kernel) ?_
      refine T_if1 (z_ixl (n := 14) (by decide +kernel) (by omega) (by omega)) ?_
      refine T_let (331 + a2) (gr_330 a2) ?_
      refine T_if1 (by decide +kernel) ?_
      refine T_let 330 (by decide +kernel) ?_
      refine T_if1 (z_ixl (n := 14) (by decide +kernel) (by omega) (by omega)) ?_
      refine T_let (331 + a1) (gr_330 a1) ?_
      refine T_if1 (z_ixs (sh_r330 (by omega)) (by omega) (by omega) (by omega)) ?_
      refine T_leq (fun x2 e3 => ?_)
      have u4 := CI_b c (k := (331 + a1)) (j := a3) (bds_r330 (by omega) a3)
      refine T_if1 (z_ixs (sh_r330 (by omega)) (by omega) (by omega) (by omega)) ?_
      refine T_upg c (bds_r330 (by omega) a3) (by omega) (fun s5 c6 g8 g9 e10 => ?_)
      have f7 := z_Fr.up (R := R_X12_copies_309) f g8 (fun b => by unfold R_X12_copies_309; omega)
      have r11 := y_CP.fr (by omega) i0 (fun a b h => g8 a b (by omega)) (fun a b h => g8 a b (by omega)) (fun a b h => g8 a b (by omega))
      refine T_if1 (by decide +kernel) ?_
      refine T_let 345 (by decide +kernel) ?_
      refine T_if1 (z_ixl (n := 14) (by decide +kernel) (by omega) (by omega)) ?_
      refine T_let (346 + a2) (gr_345 a2) ?_
      refine T_if1 (by decide +kernel) ?_
      refine T_let 345 (by decide +kernel) ?_
      refine T_if1 (z_ixl (n := 14) (by decide +kernel) (by omega) (by omega)) ?_
      refine T_let (346 + a1) (gr_345 a1) ?_
      refine T_if1 (z_ixs (sh_r345 (by omega)) (by omega) (by omega) (by omega)) ?_
      refine T_leq (fun x12 e13 => ?_)
      have u14 := CI_b c6 (k := (346 + a1)) (j := a3) (bds_r345 (by omega) a3)
      have n15 := (y_CP.src r11 (by omega) (by omega) a3).2.1
      refine T_if1 (z_ixs (sh_r345 (by omega)) (by omega) (by omega) (by omega)) ?_
      refine T_upg c6 (bds_r345 (by omega) a3) (by omega) (fun s16 c17 g19 g20 e21 => ?_)
      have f18 := z_Fr.up (R := R_X12_copies_309) f7 g19 (fun b => by unfold R_X12_copies_309; omega)
      have r22 : y_CP r0 s16 a1 a2 3 a3 := y_CP.st (by omega) r11 (fun b h => g19 _ b (by omega)) (fun b h => g20 b (by omega)) (fun b h => g19 _ b (by omega)) (fun a b h1 h2 h3 => g19 a b h2)
      refine T_if1 (by decide +kernel) ?_
      refine T_let 360 (by decide +kernel) ?_
      refine T_if1 (z_ixl (n := 14) (by decide +kernel) (by omega) (by omega)) ?_
      refine T_let (361 + a2) (gr_360 a2) ?_
      refine T_if1 (by decide +kernel) ?_
      refine T_let 360 (by decide +kernel) ?_
      refine T_if1 (z_ixl (n := 14) (by decide +kernel) (by omega) (by omega)) ?_
      refine T_let (361 + a1) (gr_360 a1) ?_
      refine T_if1 (z_ixs (sh_r360 (by omega)) (by omega) (by omega) (by omega)) ?_
      refine T_leq (fun x23 e24 => ?_)
      have u25 := CI_b c17 (k := (361 + a1)) (j := a3) (bds_r360 (by omega) a3)
      have n26 := (y_CP.src r22 (by omega) (by omega) a3).2.2
      refine T_if1 (z_ixs (sh_r360 (by omega)) (by omega) (by omega) (by omega)) ?_
      refine T_upg c17 (bds_r360 (by omega) a3) (by omega) (fun s27 c28 g30 g31 e32 => ?_)
      have f29 := z_Fr.up (R := R_X12_copies_309) f18 g30 (fun b => by unfold R_X12_copies_309; omega)
      have t33 : s27 (346 + a2) a3 = x12 := by first | exact (g30 (346 + a2) a3 (by omega)).trans e21 | exact (g31 a3 (by omega)).trans e21
      have r34 : y_CP r0 s27 a1 a2 3 a3 := y_CP.st (by omega) r22 (fun b h => g30 _ b (by omega)) (fun b h => g30 _ b (by omega)) (fun b h => g31 b (by omega)) (fun a b h1 h2 h3 => g30 a b h3)
      refine T_if1 (by decide +kernel) ?_
      refine T_let 375 (by decide +kernel) ?_
      refine T_if1 (z_ixl (n := 14) (by decide +kernel) (by omega) (by omega)) ?_
      refine T_let (376 + a2) (gr_375 a2) ?_
      refine T_if1 (by decide +kernel) ?_
      refine T_let 375 (by decide +kernel) ?_
      refine T_if1 (z_ixl (n := 14) (by decide +kernel) (by omega) (by omega)) ?_
      refine T_let (376 + a1) (gr_375 a1) ?_
      refine T_if1 (z_ixs (sh_r375 (by omega)) (by omega) (by omega) (by omega)) ?_
      refine T_leq (fun x35 e36 => ?_)
      have u37 := CI_b c28 (k := (376 + a1)) (j := a3) (bds_r375 (by omega) a3)
      refine T_if1 (z_ixs (sh_r375 (by omega)) (by omega) (by omega) (by omega)) ?_
      refine T_upg c28 (bds_r375 (by omega) a3) (by omega) (fun s38 c39 g41 g42 e43 => ?_)
      have f40 := z_Fr.up (R := R_X12_copies_309) f29 g41 (fun b => by unfold R_X12_copies_309; omega)
      have r44 := y_CP.fr (by omega) r34 (fun a b h => g41 a b (by omega)) (fun a b h => g41 a b (by omega)) (fun a b h => g41 a b (by omega))
      have t45 : s38 (346 + a2) a3 = x12 := by first | exact (g41 (346 + a2) a3 (by omega)).trans t33 | exact (g42 a3 (by omega)).trans t33
      have t46 : s38 (361 + a2) a3 = x23 := by first | exact (g41 (361 + a2) a3 (by omega)).trans e32 | exact (g42 a3 (by omega)).trans e32
      clear t33
      refine T_if1 (by decide +kernel) ?_
      refine T_let 390 (by decide +kernel) ?_
      refine T_if1 (z_ixl (n := 14) (by decide +kernel) (by omega) (by omega)) ?_
      refine T_let (391 + a2) (gr_390 a2) ?_
      refine T_if1 (by decide +kernel) ?_
      refine T_let 390 (by decide +kernel) ?_
      refine T_if1 (z_ixl (n := 14) (by decide +kernel) (by omega) (by omega)) ?_
      refine T_let (391 + a1) (gr_390 a1) ?_
      refine T_if1 (z_ixs (sh_r390 (by omega)) (by omega) (by omega) (by omega)) ?_
      refine T_leq (fun x47 e48 => ?_)
      have u49 := CI_b c39 (k := (391 + a1)) (j := a3) (bdg (c := _) (by omega) (by omega))
      refine T_if1 (z_ixs (sh_r390 (by omega)) (by omega) (by omega) (by omega)) ?_
      refine T_upg c39 (bdg (c := _) (by omega) (by omega)) (by omega) (fun s50 c51 g53 g54 e55 => ?_)
      have f52 := z_Fr.up (R := R_X12_copies_309) f40 g53 (fun b => by unfold R_X12_copies_309; omega)
      have r56 := y_CP.fr (by omega) r44 (fun a b h => g53 a b (by omega)) (fun a b h => g53 a b (by omega)) (fun a b h => g53 a b (by omega))
      have t57 : s50 (346 + a2) a3 = x12 := by first | exact (g53 (346 + a2) a3 (by omega)).trans t45 | exact (g54 a3 (by omega)).trans t45
      have t58 : s50 (361 + a2) a3 = x23 := by first | exact (g53 (361 + a2) a3 (by omega)).trans t46 | exact (g54 a3 (by omega)).trans t46
      clear t45
      clear t46
      have r59 : y_CP r0 s50 a1 a2 3 (a3 + 1) := y_CP.exm r56 (by omega) (by omega) rfl
      refine sl_X12_copies_309_L121 hfu r0 a1 a2 a3 (by omega) (by omega) (by omega) (by omega) (fun s60 c61 f62 g63 => ?_) fu s50 0 c51 f52 (by omega) (by first | exact y_CP.cg r59 (by omega) (by omega) | exact y_CP.cg r56 (by omega) (by omega) | exact y_CP.z (by omega) (by omega)) (by omega)
      exact sj_X12_copies_309_J168 hfu r0 s60 c61 f62 a1 a2 a3 (by omega) (by omega) (by omega) (by first | exact y_CP.cg g63 (by omega) (by omega) | exact y_CP.z (by omega) (by omega)) (2147483647 - a3) (by omega) (fun s' v3 c' f' w3 z0 pg => ih s' v3 c' f' w3 z0 (by omega)) hk
theorem sf_X12_copies_309 {fu : Nat} (hfu : 8589934592 ≤ fu) (r0 : z_M) (c0 : z_CI r0) (a1 : Int) (a2 : Int) (b1 : 0 ≤ a1 ∧ a1 ≤ 13) (b2 : 0 ≤ a2 ∧ a2 ≤ 13) (p0 : a1 ≠ a2) : z_T (fX12_copies fu r0 309 a1 a2) (P_X12_copies_309 r0 a1 a2) := by
  refine T_of (fX12_copies.eq_1 ..) ?_
  refine sl_X12_copies_309_L2 hfu r0 a1 a2 (by omega) (by omega) (by omega) (fun s1 c2 f3 g4 => ?_) fu r0 0 c0 z_Fr.rf (by omega) (by first | exact y_CP.z (by omega) (by omega)) (by omega)
  refine sl_X12_copies_309_L31 hfu r0 a1 a2 (by omega) (by omega) (by omega) (fun s5 c6 f7 g8 => ?_) fu s1 0 c2 f3 (by omega) (by first | exact y_CP.cg g4 (by omega) (by omega) | exact y_CP.z (by omega) (by omega)) (by omega)
  exact T_ret ⟨c6, f7, (by first | exact y_CP.cg g8 (by omega) (by omega) | exact y_CP.z (by omega) (by omega)), rfl⟩
abbrev R_X12_isOne_309 (a b : Int) : Prop := False
abbrev P_X12_isOne_309 (r0 : z_M) : z_V → z_M → Prop := fun v s' => z_CI s' ∧ z_Fr R_X12_isOne_309 r0 s' ∧ (∃ x, v = vI x ∧ 0 ≤ x ∧ x ≤ 1)
theorem sj_X12_isOne_309_J50 {fu : Nat} (hfu : 8589934592 ≤ fu) (r0 s : z_M) (c : z_CI s) (f : z_Fr R_X12_isOne_309 r0 s) (t0 : Int) (d0 : 0 ≤ t0 ∧ t0 ≤ 1) : z_T (fX12_isOne_J50 fu s t0) (P_X12_isOne_309 r0) := by
  have qf := z_Fr.eq (fun a b h => h) f
  subst qf
  refine T_of (fX12_isOne_J50.eq_1 ..) ?_
  refine T_if1 (by unfold z_bl; omega) ?_
  exact T_ret ⟨c, f, ⟨t0, rfl, by omega, by omega⟩⟩
theorem sj_X12_isOne_309_J24 {fu : Nat} (hfu : 8589934592 ≤ fu) (r0 s : z_M) (c : z_CI s) (f : z_Fr R_X12_isOne_309 r0 s) (a1 : Int) (b1 : 1 ≤ a1 ∧ a1 ≤ 199) : z_T (fX12_isOne_J24 fu s 309 a1) (P_X12_isOne_309 r0) := by
  have qf := z_Fr.eq (fun a b h => h) f
  subst qf
  refine T_of (fX12_isOne_J24.eq_1 ..) ?_
  refine T_if1 (by decide +kernel) ?_
  refine T_let 345 (by decide +kernel) ?_
  refine T_if1 (z_ixl (n := 14) (by decide +kernel) (by omega) (by omega)) ?_
  refine T_let 346 (by decide +kernel) ?_
  refine T_if1 (z_ixl (n := 200) (by decide +kernel) (by omega) (by omega)) ?_
  refine T_leq (fun x1 e2 => ?_)
  have u3 := CI_b c (k := 346) (j := a1) (bdr_346 a1)
  refine T_if1 (by decide +kernel) ?_
  refine T_let 345 (by decide +kernel) ?_
  refine T_if1 (z_ixl (n := 14) (by decide +kernel) (by omega) (by omega)) ?_
  refine T_let 346 (by decide +kernel) ?_
  refine T_leq (fun x4 e5 => ?_)
  first | (have w6 := z_wx e5 (by omega)) | (have w6 := z_wr e5)
  refine T_if1 (z_ixl (n := 200) (by decide +kernel) (by omega) (by omega)) ?_
  refine T_leq (fun x7 e8 => ?_)
  have u9 := CI_b c (k := 346) (j := x4) (bdr_346 x4)
  refine T_ite (fun h10 => ?_) (fun h10 => ?_)
  · exact sj_X12_isOne_309_J50 hfu r0 r0 c f 0 (by omega)
  · exact sj_X12_isOne_309_J50 hfu r0 r0 c f 1 (by omega)
theorem sj_X12_isOne_309_J90 {fu : Nat} (hfu : 8589934592 ≤ fu) (r0 s : z_M) (c : z_CI s) (f : z_Fr R_X12_isOne_309 r0 s) (t0 : Int) (d0 : 0 ≤ t0 ∧ t0 ≤ 1) : z_T (fX12_isOne_J90 fu s t0) (P_X12_isOne_309 r0) := by
  have qf := z_Fr.eq (fun a b h => h) f
  subst qf
  refine T_of (fX12_isOne_J90.eq_1 ..) ?_
  refine T_if1 (by unfold z_bl; omega) ?_
  exact T_ret ⟨c, f, ⟨t0, rfl, by omega, by omega⟩⟩
theorem sj_X12_isOne_309_J89 {fu : Nat} (hfu : 8589934592 ≤ fu) (r0 s : z_M) (c : z_CI s) (f : z_Fr R_X12_isOne_309 r0 s) : z_T (fX12_isOne_J89 fu s) (P_X12_isOne_309 r0) := by
  have qf := z_Fr.eq (fun a b h => h) f
  subst qf
  refine T_of (fX12_isOne_J89.eq_1 ..) ?_
  exact sj_X12_isOne_309_J90 hfu r0 r0 c f 0 (by omega)
theorem sf_X12_isOne_309 {fu : Nat} (hfu : 8589934592 ≤ fu) (r0 : z_M) (c0 : z_CI r0) (a1 : Int) (b1 : 1 ≤ a1 ∧ a1 ≤ 199) : z_T (fX12_isOne fu r0 309 a1) (P_X12_isOne_309 r0) := by
  refine T_of (fX12_isOne.eq_1 ..) ?_
  refine T_if1 (by decide +kernel) ?_
  refine T_let 345 (by decide +kernel) ?_
  refine T_if1 (z_ixl (n := 14) (by decide +kernel) (by omega) (by omega)) ?_
  refine T_let 346 (by decide +kernel) ?_
  refine T_if1 (z_ixl (n := 200) (by decide +kernel) (by omega) (by omega)) ?_
  refine T_leq (fun x1 e2 => ?_)
  have u3 := CI_b c0 (k := 346) (j := a1) (bdr_346 a1)
  refine T_ite (fun h4 => ?_) (fun h4 => ?_)
  · exact sj_X12_isOne_309_J24 hfu r0 r0 c0 z_Fr.rf a1 (by omega)
  · refine T_if1 (by decide +kernel) ?_
    refine T_let 345 (by decide +kernel) ?_
    refine T_if1 (z_ixl (n := 14) (by decide +kernel) (by omega) (by omega)) ?_
    refine T_let 346 (by decide +kernel) ?_
    refine T_if1 (z_ixl (n := 200) (by decide +kernel) (by omega) (by omega)) ?_
    refine T_leq (fun x5 e6 => ?_)
    have q7 : x1 = x5 := e2.symm.trans e6
    subst q7
    refine T_ite (fun h8 => ?_) (fun h8 => ?_)
    · refine T_if1 (by decide +kernel) ?_
      refine T_let 345 (by decide +kernel) ?_
      refine T_if1 (z_ixl (n := 14) (by decide +kernel) (by omega) (by omega)) ?_
      refine T_let 346 (by decide +kernel) ?_
      refine T_if1 (z_ixl (n := 200) (by decide +kernel) (by omega) (by omega)) ?_
      refine T_leq (fun x9 e10 => ?_)
      have q11 : x1 = x9 := e2.symm.trans e10
      subst q11
      refine T_ite (fun h12 => ?_) (fun h12 => ?_)
      · exact sj_X12_isOne_309_J89 hfu r0 r0 c0 z_Fr.rf
      · refine T_if1 (by decide +kernel) ?_
        refine T_let 360 (by decide +kernel) ?_
        refine T_if1 (z_ixl (n := 14) (by decide +kernel) (by omega) (by omega)) ?_
        refine T_let 361 (by decide +kernel) ?_
        refine T_if1 (z_ixl (n := 200) (by decide +kernel) (by omega) (by omega)) ?_
        refine T_leq (fun x13 e14 => ?_)
        have u15 := CI_b c0 (k := 361) (j := a1) (bdr_361 a1)
        refine T_if1 (by decide +kernel) ?_
        refine T_let 360 (by decide +kernel) ?_
        refine T_if1 (z_ixl (n := 14) (by decide +kernel) (by omega) (by omega)) ?_
        refine T_let 361 (by decide +kernel) ?_
        refine T_leq (fun x16 e17 => ?_)
        first | (have w18 := z_wx e17 (by omega)) | (have w18 := z_wr e17)
        refine T_if1 (z_ixl (n := 200) (by decide +kernel) (by omega) (by omega)) ?_
        refine T_leq (fun x19 e20 => ?_)
        have u21 := CI_b c0 (k := 361) (j := x16) (bdr_361 x16)
        refine T_ite (fun h22 => ?_) (fun h22 => ?_)
        · exact sj_X12_isOne_309_J89 hfu r0 r0 c0 z_Fr.rf
        · exact sj_X12_isOne_309_J90 hfu r0 r0 c0 z_Fr.rf 1 (by omega)
    · exact sj_X12_isOne_309_J24 hfu r0 r0 c0 z_Fr.rf a1 (by omega)
abbrev R_X12_laysUnits_309 (a b : Int) : Prop := (3220 ≤ a ∧ a ≤ 3223) ∨ (a = 309 ∧ (b = 20 ∨ b = 36))
abbrev P_X12_laysUnits_309 (r0 : z_M) : z_V → z_M → Prop := fun v s' => z_CI s' ∧ z_Fr R_X12_laysUnits_309 r0 s' ∧ (y_B s') ∧ (s' 309 36 = 0) ∧ (v = vN)
theorem sj_X12_laysUnits_309_J78 {fu : Nat} (hfu : 8589934592 ≤ fu) (r0 s : z_M) (c : z_CI s) (f : z_Fr R_X12_laysUnits_309 r0 s) (a1 : Int) (b1 : 0 ≤ a1 ∧ a1 ≤ 199) (p0 : y_Q s (s 309 20) a1) (p1 : 1 ≤ s 309 20) (p2 : s 309 20 ≤ a1 + 1) (p3 : a1 < s 316 0) (p4 : y_TA s) (M : Int) (pm : 2147483647 - a1 ≤ M) {r : z_M → Int → z_O} {k : z_M → z_O} (hr : ∀ (s' : z_M) (v1 : Int), z_CI s' → z_Fr R_X12_laysUnits_309 r0 s' → (0 ≤ v1 ∧ v1 ≤ 200) → (y_Q s' (s' 309 20) v1) → (s' 309 20 ≤ v1) → (v1 ≤ s' 316 0) → (y_TA s') → (2147483647 - v1 < M) → z_T (r s' v1) (P_X12_laysUnits_309 r0)) (hk : ∀ (s' : z_M), z_CI s' → z_Fr R_X12_laysUnits_309 r0 s' → (y_Q s' (s' 309 20) (s' 316 0)) → z_T (k s') (P_X12_laysUnits_309 r0)) : z_T (fX12_laysUnits_J78 fu s 309 a1 r k) (P_X12_laysUnits_309 r0) := by
  refine T_of (fX12_laysUnits_J78.eq_1 ..) ?_
  have u1 := CI_b c (k := 309) (j := 20) bd_309_20
  have u2 := CI_b c (k := 309) (j := 36) bd_309_36
  have u3 := CI_b c (k := 316) (j := 0) bd_316_0
  have t4 : s 316 0 = r0 316 0 := f 316 0 (by decide)
  refine T_if1 (by decide +kernel) ?_
  refine T_let 3222 (by decide +kernel) ?_
  refine T_if1 (by decide +kernel) ?_
  refine T_leq (fun x5 e6 => ?_)
  have u7 := CI_b c (k := 309) (j := 20) bd_309_20
  refine T_leq (fun x8 e9 => ?_)
  first | (have w10 := z_wx e9 (by omega)) | (have w10 := z_wr e9)
  refine T_if1 (z_ixl (n := 200) (by decide +kernel) (by omega) (by omega)) ?_
  refine T_leq (fun x11 e12 => ?_)
  have u13 := CI_b c (k := 3222) (j := x8) (bdr_3222 x8)
  have n14 := y_Q.last p0 (u := x8) (by omega) (by omega)
  have n15 := CI_b c (k := 3221) (j := x8) (bdr_3221 x8)
  refine T_leq (fun x16 e17 => ?_)
  first | (have w18 := z_wx e17 (by omega)) | (have w18 := z_wr e17)
  refine T_if1 (z_ixl (n := 200) (by decide +kernel) (by omega) (by omega)) ?_
  refine T_upg c (bdr_3222 x8) (by omega) (fun s19 c20 g22 g23 e24 => ?_)
  have f21 := z_Fr.up (R := R_X12_laysUnits_309) f g22 (fun _ => (Or.inl (⟨by decide, by decide⟩)))
  have t25 : s19 309 20 = x5 := (g22 309 20 (by decide)).trans e6
  have t26 : s19 309 36 = s 309 36 := g22 309 36 (by decide)
  have t27 : s19 316 0 = s 316 0 := g22 316 0 (by decide)
  have r28 := y_TA.fr p4 (fun a b h => g22 a b (by omega)) (fun a b h => g22 a b (by omega)) (fun a b h => g22 a b (by omega))
  have r29 := y_Q.inc p0 (by omega) g22 g23 e24 (by omega) (by omega) rfl
  refine T_if1 (by decide +kernel) ?_
  refine T_let 3223 (by decide +kernel) ?_
  refine T_if1 (by decide +kernel) ?_
  refine T_leq (fun x30 e31 => ?_)
  have q32 : x5 = x30 := t25.symm.trans e31
  subst q32
  refine T_leq (fun x33 e34 => ?_)
  have q35 : x8 = x33 := e9.symm.trans e34
  subst q35
  refine T_if1 (z_ixl (n := 200) (by decide +kernel) (by omega) (by omega)) ?_
  refine T_upg c20 (bdr_3223 a1) (by omega) (fun s36 c37 g39 g40 e41 => ?_)
  have f38 := z_Fr.up (R := R_X12_laysUnits_309) f21 g39 (fun _ => (Or.inl (⟨by decide, by decide⟩)))
  have t42 : s36 309 20 = x5 := (g39 309 20 (by decide)).trans t25
  have t43 : s36 309 36 = s 309 36 := (g39 309 36 (by decide)).trans t26
  have t44 : s36 316 0 = s 316 0 := (g39 316 0 (by decide)).trans t27
  have r45 := y_TA.fr r28 (fun a b h => g39 a b (by omega)) (fun a b h => g39 a b (by omega)) (fun a b h => g39 a b (by omega))
  have r46 := y_Q.fr r29 (fun b => g39 3220 b (by decide)) (fun b => g39 3221 b (by decide)) (fun b => g39 3222 b (by decide)) (fun b => g39 361 b (by decide))
  clear t25
  clear t26
  clear t27
  refine T_leq (fun x47 e48 => ?_)
  first | (have w49 := z_wx e48 (by omega)) | (have w49 := z_wr e48)
  exact hr s36 x47 c37 f38 (by omega) (by first | exact y_Q.cg r46 (by omega) (by omega) | exact y_Q.z (by omega) (by omega)) (by omega) (by omega) r45 (by omega)
theorem sj_X12_laysUnits_309_J31 {fu : Nat} (hfu : 8589934592 ≤ fu) (r0 s : z_M) (c : z_CI s) (f : z_Fr R_X12_laysUnits_309 r0 s) (a1 : Int) (b1 : 0 ≤ a1 ∧ a1 ≤ 199) (p0 : y_Q s (s 309 20) a1) (p1 : s 309 20 ≤ a1) (p2 : a1 < s 316 0) (p3 : y_TA s) (M : Int) (pm : 2147483647 - a1 ≤ M) {r : z_M → Int → z_O} {k : z_M → z_O} (hr : ∀ (s' : z_M) (v1 : Int), z_CI s' → z_Fr R_X12_laysUnits_309 r0 s' → (0 ≤ v1 ∧ v1 ≤ 200) → (y_Q s' (s' 309 20) v1) → (s' 309 20 ≤ v1) → (v1 ≤ s' 316 0) → (y_TA s') → (2147483647 - v1 < M) → z_T (r s' v1) (P_X12_laysUnits_309 r0)) (hk : ∀ (s' : z_M), z_CI s' → z_Fr R_X12_laysUnits_309 r0 s' → (y_Q s' (s' 309 20) (s' 316 0)) → z_T (k s') (P_X12_laysUnits_309 r0)) : z_T (fX12_laysUnits_J31 fu s 309 a1 r k) (P_X12_laysUnits_309 r0) := by
  refine T_of (fX12_laysUnits_J31.eq_1 ..) ?_
  have u1 := CI_b c (k := 309) (j := 20) bd_309_20
  have u2 := CI_b c (k := 309) (j := 36) bd_309_36
  have u3 := CI_b c (k := 316) (j := 0) bd_316_0
  have t4 : s 316 0 = r0 316 0 := f 316 0 (by decide)
  refine T_if1 (by decide +kernel) ?_
  refine T_let 3220 (by decide +kernel) ?_
  refine T_if1 (by decide +kernel) ?_
  refine T_leq (fun x5 e6 => ?_)
  have u7 := CI_b c (k := 309) (j := 20) bd_309_20
  refine T_if1 (by decide +kernel) ?_
  refine T_let 345 (by decide +kernel) ?_
  refine T_if1 (z_ixl (n := 14) (by decide +kernel) (by omega) (by omega)) ?_
  refine T_let 346 (by decide +kernel) ?_
  refine T_if1 (z_ixl (n := 200) (by decide +kernel) (by omega) (by omega)) ?_
  refine T_leq (fun x8 e9 => ?_)
  have u10 := CI_b c (k := 346) (j := a1) (bdr_346 a1)
  refine T_if1 (z_ixl (n := 200) (by decide +kernel) (by omega) (by omega)) ?_
  refine T_upg c (bdr_3220 x5) (by omega) (fun s11 c12 g14 g15 e16 => ?_)
  have f13 := z_Fr.up (R := R_X12_laysUnits_309) f g14 (fun _ => (Or.inl (⟨by decide, by decide⟩)))
  have t17 : s11 309 20 = x5 := (g14 309 20 (by decide)).trans e6
  have t18 : s11 309 36 = s 309 36 := g14 309 36 (by decide)
  have t19 : s11 316 0 = s 316 0 := g14 316 0 (by decide)
  have r20 := y_TA.fr p3 (fun a b h => g14 a b (by omega)) (fun a b h => g14 a b (by omega)) (fun a b h => g14 a b (by omega))
  have t21 : s11 346 a1 = x8 := by first | exact (g14 346 a1 (by omega)).trans e9 | exact (g15 a1 (by omega)).trans e9
  have r22 := y_Q.ag p0 (fun b h => g15 b (by omega)) (fun b h => g14 3221 b (by omega)) (fun b h => g14 3222 b (by omega)) (fun b => g14 361 b (by decide))
  refine T_if1 (by decide +kernel) ?_
  refine T_let 3221 (by decide +kernel) ?_
  refine T_if1 (by decide +kernel) ?_
  refine T_leq (fun x23 e24 => ?_)
  have q25 : x5 = x23 := t17.symm.trans e24
  subst q25
  refine T_if1 (z_ixl (n := 200) (by decide +kernel) (by omega) (by omega)) ?_
  refine T_upg c12 (bdr_3221 x5) (by omega) (fun s26 c27 g29 g30 e31 => ?_)
  have f28 := z_Fr.up (R := R_X12_laysUnits_309) f13 g29 (fun _ => (Or.inl (⟨by decide, by decide⟩)))
  have t32 : s26 309 20 = x5 := (g29 309 20 (by decide)).trans t17
  have t33 : s26 309 36 = s 309 36 := (g29 309 36 (by decide)).trans t18
  have t34 : s26 316 0 = s 316 0 := (g29 316 0 (by decide)).trans t19
  have r35 := y_TA.fr r20 (fun a b h => g29 a b (by omega)) (fun a b h => g29 a b (by omega)) (fun a b h => g29 a b (by omega))
  have t36 : s26 346 a1 = x8 := by first | exact (g29 346 a1 (by omega)).trans t21 | exact (g30 a1 (by omega)).trans t21
  have t37 : s26 3220 x5 = x8 := by first | exact (g29 3220 x5 (by omega)).trans e16 | exact (g30 x5 (by omega)).trans e16
  have r38 := y_Q.ag r22 (fun b h => g29 3220 b (by omega)) (fun b h => g30 b (by omega)) (fun b h => g29 3222 b (by omega)) (fun b => g29 361 b (by decide))
  clear t17
  clear t18
  clear t19
  clear t21
  refine T_if1 (by decide +kernel) ?_
  refine T_let 3222 (by decide +kernel) ?_
  refine T_if1 (by decide +kernel) ?_
  refine T_leq (fun x39 e40 => ?_)
  have q41 : x5 = x39 := t32.symm.trans e40
  subst q41
  refine T_if1 (z_ixl (n := 200) (by decide +kernel) (by omega) (by omega)) ?_
  refine T_upg c27 (bdr_3222 x5) (by omega) (fun s42 c43 g45 g46 e47 => ?_)
  have f44 := z_Fr.up (R := R_X12_laysUnits_309) f28 g45 (fun _ => (Or.inl (⟨by decide, by decide⟩)))
  have t48 : s42 309 20 = x5 := (g45 309 20 (by decide)).trans t32
  have t49 : s42 309 36 = s 309 36 := (g45 309 36 (by decide)).trans t33
  have t50 : s42 316 0 = s 316 0 := (g45 316 0 (by decide)).trans t34
  have r51 := y_TA.fr r35 (fun a b h => g45 a b (by omega)) (fun a b h => g45 a b (by omega)) (fun a b h => g45 a b (by omega))
  have t52 : s42 346 a1 = x8 := by first | exact (g45 346 a1 (by omega)).trans t36 | exact (g46 a1 (by omega)).trans t36
  have t53 : s42 3220 x5 = x8 := by first | exact (g45 3220 x5 (by omega)).trans t37 | exact (g46 x5 (by omega)).trans t37
  have t54 : s42 3221 x5 = a1 := by first | exact (g45 3221 x5 (by omega)).trans e31 | exact (g46 x5 (by omega)).trans e31
  have n55 := y_TA.at0 r51 (i := a1) (by omega) (by omega)
  have r56 := y_Q.ag r38 (fun b h => g45 3220 b (by omega)) (fun b h => g45 3221 b (by omega)) (fun b h => g46 b (by omega)) (fun b => g45 361 b (by decide))
  have r57 := y_Q.new (n := x5) (i := a1) (y_Q.cg r56 (by omega) (by omega)) (by omega) (by omega) (by omega) (by omega) rfl
  clear t32
  clear t33
  clear t34
  clear t36
  clear t37
  refine T_if1 (by decide +kernel) ?_
  refine T_leq (fun x58 e59 => ?_)
  have q60 : x5 = x58 := t48.symm.trans e59
  subst q60
  refine T_leq (fun x61 e62 => ?_)
  first | (have w63 := z_wx e62 (by omega)) | (have w63 := z_wr e62)
  refine T_if1 (by decide +kernel) ?_
  refine T_upg c43 bd_309_20 (by omega) (fun s64 c65 g67 g68 e69 => ?_)
  have f66 := z_Fr.upf (R := R_X12_laysUnits_309) f44 g67 g68 (Or.inr (⟨rfl, by decide⟩))
  have t70 : s64 309 36 = s 309 36 := (g68 36 (by decide)).trans t49
  have t71 : s64 316 0 = s 316 0 := (g67 316 0 (by decide)).trans t50
  have u72 := CI_b c65 (k := 309) (j := 20) bd_309_20
  have r73 := y_TA.fr r51 (fun a b h => g67 a b (by omega)) (fun a b h => g67 a b (by omega)) (fun a b h => g67 a b (by omega))
  have r74 := y_Q.fr r56 (fun b => g67 3220 b (by decide)) (fun b => g67 3221 b (by decide)) (fun b => g67 3222 b (by decide)) (fun b => g67 361 b (by decide))
  have r75 := y_Q.fr r57 (fun b => g67 3220 b (by decide)) (fun b => g67 3221 b (by decide)) (fun b => g67 3222 b (by decide)) (fun b => g67 361 b (by decide))
  have t76 : s64 346 a1 = x8 := by first | exact (g67 346 a1 (by omega)).trans t52 | exact (g68 a1 (by omega)).trans t52
  have t77 : s64 3220 x5 = x8 := by first | exact (g67 3220 x5 (by omega)).trans t53 | exact (g68 x5 (by omega)).trans t53
  have t78 : s64 3221 x5 = a1 := by first | exact (g67 3221 x5 (by omega)).trans t54 | exact (g68 x5 (by omega)).trans t54
  clear t49
  clear t50
  clear t52
  clear t53
  clear t54
  exact sj_X12_laysUnits_309_J78 hfu r0 s64 c65 f66 a1 (by omega) (by first | exact y_Q.cg r75 (by omega) (by omega) | exact y_Q.cg r74 (by omega) (by omega) | exact y_Q.z (by omega) (by omega)) (by omega) (by omega) (by omega) r73 M (by omega) (fun s' v1 c' f' w1 z0 z1 z2 z3 pg => hr s' v1 c' f' w1 z0 z1 z2 z3 (by omega)) hk
theorem sl_X12_laysUnits_309_L7 {fu : Nat} (hfu : 8589934592 ≤ fu) (r0 : z_M) {k : z_M → z_O} (hk : ∀ (s' : z_M), z_CI s' → z_Fr R_X12_laysUnits_309 r0 s' → (y_Q s' (s' 309 20) (s' 316 0)) → z_T (k s') (P_X12_laysUnits_309 r0)) : ∀ (F : Nat) (s : z_M) (a1 : Int), z_CI s → z_Fr R_X12_laysUnits_309 r0 s → (0 ≤ a1 ∧ a1 ≤ 200) → (y_Q s (s 309 20) a1) → (s 309 20 ≤ a1) → (a1 ≤ s 316 0) → (y_TA s) → (2147483647 - a1 < (F : Int)) → z_T (fX12_laysUnits_L7 fu 309 F s a1 k) (P_X12_laysUnits_309 r0) := by
  intro F
  induction F with
  | zero =>
    intro s a1 c f b1 i0 i1 i2 i3 hm
    have u21 := CI_b c (k := 309) (j := 20) bd_309_20
    have u22 := CI_b c (k := 309) (j := 36) bd_309_36
    have u23 := CI_b c (k := 316) (j := 0) bd_316_0
    exfalso; omega
  | succ F ih =>
    intro s a1 c f b1 i0 i1 i2 i3 hm
    refine T_of (fX12_laysUnits_L7.eq_2 ..) ?_
    have u1 := CI_b c (k := 309) (j := 20) bd_309_20
    have u2 := CI_b c (k := 309) (j := 36) bd_309_36
    have u3 := CI_b c (k := 316) (j := 0) bd_316_0
    have t4 : s 316 0 = r0 316 0 := f 316 0 (by decide)
    refine T_if1 (by decide +kernel) ?_
    refine T_let 315 (by decide +kernel) ?_
    refine T_if1 (z_ixl (n := 14) (by decide +kernel) (by omega) (by omega)) ?_
    refine T_let 316 (by decide +kernel) ?_
    refine T_if1 (z_ixl (n := 3) (by decide +kernel) (by omega) (by omega)) ?_
    refine T_leq (fun x5 e6 => ?_)
    have u7 := CI_b c (k := 316) (j := 0) bd_316_0
    refine T_ite (fun h8 => ?_) (fun h8 => ?_)
    · exact hk s c f (by first | exact y_Q.cg i0 (by omega) (by omega) | exact y_Q.z (by omega) (by omega))
    · refine T_ite (fun h9 => ?_) (fun h9 => ?_)
      · exact sj_X12_laysUnits_309_J31 hfu r0 s c f a1 (by omega) (by first | exact y_Q.cg i0 (by omega) (by omega) | exact y_Q.z (by omega) (by omega)) (by omega) (by omega) i3 (2147483647 - a1) (by omega) (fun s' v1 c' f' w1 z0 z1 z2 z3 pg => ih s' v1 c' f' w1 z0 z1 z2 z3 (by omega)) hk
      · refine T_if1 (by decide +kernel) ?_
        refine T_useI (sf_X12_isOne_309 hfu s c a1 (by omega)) (fun v15 s10 hq => ?_)
        obtain ⟨c11, f12, ⟨x14, rfl, b16, b17⟩⟩ := hq
        refine T_vI ?_
        have q18 := z_Fr.eq (fun a b h => h) f12
        subst q18
        have n19 := y_Q.n0 i0
        refine T_ite (fun h20 => ?_) (fun h20 => ?_)
        · exact sj_X12_laysUnits_309_J78 hfu r0 s c f a1 (by omega) (by first | exact y_Q.cg i0 (by omega) (by omega) | exact y_Q.z (by omega) (by omega)) (by omega) (by omega) (by omega) i3 (2147483647 - a1) (by omega) (fun s' v1 c' f' w1 z0 z1 z2 z3 pg => ih s' v1 c' f' w1 z0 z1 z2 z3 (by omega)) hk
        · exact sj_X12_laysUnits_309_J31 hfu r0 s c f a1 (by omega) (by first | exact y_Q.cg i0 (by omega) (by omega) | exact y_Q.z (by omega) (by omega)) (by omega) (by omega) i3 (2147483647 - a1) (by omega) (fun s' v1 c' f' w1 z0 z1 z2 z3 pg => ih s' v1 c' f' w1 z0 z1 z2 z3 (by omega)) hk
theorem sf_X12_laysUnits_309 {fu : Nat} (hfu : 8589934592 ≤ fu) (r0 : z_M) (c0 : z_CI r0) (p0 : y_TA r0) : z_T (fX12_laysUnits fu r0 309) (P_X12_laysUnits_309 r0) := by
  refine T_of (fX12_laysUnits.eq_1 ..) ?_
  have u1 := CI_b c0 (k := 309) (j := 20) bd_309_20
  have u2 := CI_b c0 (k := 309) (j := 36) bd_309_36
  have u3 := CI_b c0 (k := 316) (j := 0) bd_316_0
  refine T_if1 (by decide +kernel) ?_
  refine T_upg c0 bd_309_20 (by omega) (fun s4 c5 g7 g8 e9 => ?_)
  have f6 := z_Fr.upf (R := R_X12_laysUnits_309) z_Fr.rf g7 g8 (Or.inr (⟨rfl, by decide⟩))
  have t10 : s4 309 36 = r0 309 36 := g8 36 (by decide)
  have t11 : s4 316 0 = r0 316 0 := g7 316 0 (by decide)
  have u12 := CI_b c5 (k := 309) (j := 20) bd_309_20
  have r13 := y_TA.fr p0 (fun a b h => g7 a b (by omega)) (fun a b h => g7 a b (by omega)) (fun a b h => g7 a b (by omega))
  refine sl_X12_laysUnits_309_L7 hfu r0 (fun s14 c15 f16 g17 => ?_) fu s4 0 c5 f6 (by omega) (by first | exact y_Q.z (by omega) (by omega)) (by omega) (by omega) r13 (by omega)
  have u18 := CI_b c15 (k := 309) (j := 20) bd_309_20
  have u19 := CI_b c15 (k := 309) (j := 36) bd_309_36
  have u20 := CI_b c15 (k := 316) (j := 0) bd_316_0
  have t21 : s14 316 0 = r0 316 0 := f16 316 0 (by decide)
  refine T_if1 ⟨(by decide +kernel), by unfold z_bl; omega⟩ ?_
  refine T_upg c15 bd_309_36 (by omega) (fun s22 c23 g25 g26 e27 => ?_)
  have f24 := z_Fr.upf (R := R_X12_laysUnits_309) f16 g25 g26 (Or.inr (⟨rfl, by decide⟩))
  have t28 : s22 309 20 = s14 309 20 := g26 20 (by decide)
  have t29 : s22 316 0 = s14 316 0 := g25 316 0 (by decide)
  have u30 := CI_b c23 (k := 309) (j := 36) bd_309_36
  have r31 := y_Q.fr g17 (fun b => g25 3220 b (by decide)) (fun b => g25 3221 b (by decide)) (fun b => g25 3222 b (by decide)) (fun b => g25 361 b (by decide))
  exact T_ret ⟨c23, f24, (by first | exact y_B.of r31 (by omega) (by omega)), (by omega), rfl⟩
abbrev R_X12_stands_309 (a b : Int) : Prop := (316 ≤ a ∧ a ≤ 404) ∨ (407 ≤ a ∧ a ≤ 3223) ∨ (a = 309 ∧ (b = 19 ∨ b = 20 ∨ b = 36))
abbrev P_X12_stands_309 (r0 : z_M) : z_V → z_M → Prop := fun v s' => z_CI s' ∧ z_Fr R_X12_stands_309 r0 s' ∧ (y_TA s') ∧ (y_DD s') ∧ (y_B s') ∧ (s' 309 36 = 0) ∧ (v = vN)
theorem rs_X12_copies_309__X12_stands_309 (a b : Int) (h : R_X12_copies_309 a b) : R_X12_stands_309 a b := (h.elim (fun h => (Or.inl (⟨by omega, by omega⟩))) (fun h => (Or.inr (Or.inl (⟨by omega, by omega⟩)))))
theorem rs_X12_laysUnits_309__X12_stands_309 (a b : Int) (h : R_X12_laysUnits_309 a b) : R_X12_stands_309 a b := (h.elim (fun h => (Or.inr (Or.inl (⟨by omega, by omega⟩)))) (fun h => (Or.inr (Or.inr (⟨h.1, by omega⟩)))))
theorem nq_X12_laysUnits_309__316 (a b : Int) (h : 316 ≤ a ∧ a ≤ 328) : ¬ R_X12_laysUnits_309 a b := by
  unfold R_X12_laysUnits_309; omega
theorem nq_X12_laysUnits_309__346 (a b : Int) (h : 346 ≤ a ∧ a ≤ 358) : ¬ R_X12_laysUnits_309 a b := by
  unfold R_X12_laysUnits_309; omega
theorem nq_X12_laysUnits_309__361 (a b : Int) (h : 361 ≤ a ∧ a ≤ 373) : ¬ R_X12_laysUnits_309 a b := by
  unfold R_X12_laysUnits_309; omega
theorem nr_X12_laysUnits_309__359 (b : Int) : ¬ R_X12_laysUnits_309 359 b := by
  unfold R_X12_laysUnits_309; omega
theorem nr_X12_laysUnits_309__374 (b : Int) : ¬ R_X12_laysUnits_309 374 b := by
  unfold R_X12_laysUnits_309; omega
theorem sj_X12_stands_309_J41 {fu : Nat} (hfu : 8589934592 ≤ fu) (r0 s : z_M) (c : z_CI s) (f : z_Fr R_X12_stands_309 r0 s) (p0 : y_TA s) (p1 : y_DD s) (p2 : s 309 19 ≤ 11) : z_T (fX12_stands_J41 fu s 309) (P_X12_stands_309 r0) := by
  refine T_of (fX12_stands_J41.eq_1 ..) ?_
  have u1 := CI_b c (k := 309) (j := 19) bd_309_19
  have u2 := CI_b c (k := 309) (j := 20) bd_309_20
  have u3 := CI_b c (k := 309) (j := 36) bd_309_36
  have u4 := CI_b c (k := 316) (j := 0) bd_316_0
  have u5 := CI_b c (k := 329) (j := 0) bd_329_0
  have u6 := CI_b c (k := 329) (j := 1) bd_329_1
  refine T_if1 (by decide +kernel) ?_
  refine T_leq (fun x7 e8 => ?_)
  have u9 := CI_b c (k := 309) (j := 19) bd_309_19
  refine T_leq (fun x10 e11 => ?_)
  first | (have w12 := z_wx e11 (by omega)) | (have w12 := z_wr e11)
  refine T_if1 (by decide +kernel) ?_
  refine T_upg c bd_309_19 (by omega) (fun s13 c14 g16 g17 e18 => ?_)
  have f15 := z_Fr.upf (R := R_X12_stands_309) f g16 g17 (Or.inr (Or.inr (⟨rfl, by decide⟩)))
  have t19 : s13 309 20 = s 309 20 := g17 20 (by decide)
  have t20 : s13 309 36 = s 309 36 := g17 36 (by decide)
  have t21 : s13 316 0 = s 316 0 := g16 316 0 (by decide)
  have t22 : s13 329 0 = s 329 0 := g16 329 0 (by decide)
  have t23 : s13 329 1 = s 329 1 := g16 329 1 (by decide)
  have u24 := CI_b c14 (k := 309) (j := 19) bd_309_19
  have r25 := y_TA.fr p0 (fun a b h => g16 a b (by omega)) (fun a b h => g16 a b (by omega)) (fun a b h => g16 a b (by omega))
  have r26 := y_DD.fr p1 (g16 329 0 (by decide)) (g16 329 1 (by decide)) (fun b => g16 359 b (by decide)) (fun b => g16 374 b (by decide))
  refine T_if1 (by decide +kernel) ?_
  refine T_leq (fun x27 e28 => ?_)
  have u29 := CI_b c14 (k := 309) (j := 19) bd_309_19
  refine T_if1 (by decide +kernel) ?_
  refine T_useN (sf_X12_copies_309 hfu s13 c14 0 x27 (by omega) (by omega) (by omega)) (fun v35 s30 hq => ?_)
  obtain ⟨c31, f32, o36, rfl⟩ := hq
  refine T_vN ?_
  have f33 := z_Fr.tr (R := R_X12_stands_309) f15 f32 rs_X12_copies_309__X12_stands_309
  have t39 : s30 309 19 = x27 := (f32 309 19 (by decide)).trans e28
  have t40 : s30 309 20 = s 309 20 := (f32 309 20 (by decide)).trans t19
  have t41 : s30 309 36 = s 309 36 := (f32 309 36 (by decide)).trans t20
  have u42 := CI_b c31 (k := 316) (j := 0) bd_316_0
  have u43 := CI_b c31 (k := 329) (j := 0) bd_329_0
  have u44 := CI_b c31 (k := 329) (j := 1) bd_329_1
  have r45 := y_CP.TA o36 c14 (by omega) r25
  have r46 := y_CP.DDk o36 (by omega) r26
  clear t19
  clear t20
  refine T_if1 (by decide +kernel) ?_
  refine T_useN (sf_X12_copies_309 hfu s30 c31 13 0 (by omega) (by omega) (by omega)) (fun v52 s47 hq => ?_)
  obtain ⟨c48, f49, o53, rfl⟩ := hq
  refine T_vN ?_
  have f50 := z_Fr.tr (R := R_X12_stands_309) f33 f49 rs_X12_copies_309__X12_stands_309
  have t56 : s47 309 19 = x27 := (f49 309 19 (by decide)).trans t39
  have t57 : s47 309 20 = s 309 20 := (f49 309 20 (by decide)).trans t40
  have t58 : s47 309 36 = s 309 36 := (f49 309 36 (by decide)).trans t41
  have u59 := CI_b c48 (k := 316) (j := 0) bd_316_0
  have u60 := CI_b c48 (k := 329) (j := 0) bd_329_0
  have u61 := CI_b c48 (k := 329) (j := 1) bd_329_1
  have r62 := y_CP.TAd o53 c31 r45 r46
  have r63 := y_CP.DDk o53 (by omega) r46
  clear t39
  clear t40
  clear t41
  refine T_if1 (by decide +kernel) ?_
  refine T_useN (sf_X12_laysUnits_309 hfu s47 c48 r62) (fun v69 s64 hq => ?_)
  obtain ⟨c65, f66, o70, o71, rfl⟩ := hq
  refine T_vN ?_
  have f67 := z_Fr.tr (R := R_X12_stands_309) f50 f66 rs_X12_laysUnits_309__X12_stands_309
  have t74 : s64 309 19 = x27 := (f66 309 19 (by decide)).trans t56
  have t75 : s64 316 0 = s47 316 0 := f66 316 0 (by decide)
  have t76 : s64 329 0 = s47 329 0 := f66 329 0 (by decide)
  have t77 : s64 329 1 = s47 329 1 := f66 329 1 (by decide)
  have u78 := CI_b c65 (k := 309) (j := 20) bd_309_20
  have u79 := CI_b c65 (k := 309) (j := 36) bd_309_36
  have r80 := y_TA.fr r62 (fun a b h => f66 a b (nq_X12_laysUnits_309__316 a b h)) (fun a b h => f66 a b (nq_X12_laysUnits_309__346 a b h)) (fun a b h => f66 a b (nq_X12_laysUnits_309__361 a b h))
  have r81 := y_DD.fr r63 (f66 329 0 (by decide)) (f66 329 1 (by decide)) (fun b => f66 359 b (nr_X12_laysUnits_309__359 b)) (fun b => f66 374 b (nr_X12_laysUnits_309__374 b))
  clear t56
  exact T_ret ⟨c65, f67, r80, (by first | exact r81 | exact y_DD.z (by omega) (by omega)), o70, (by omega), rfl⟩
theorem sl_X12_stands_309_L11 {fu : Nat} (hfu : 8589934592 ≤ fu) (r0 : z_M) {k : z_M → z_O} (hk : ∀ (s' : z_M), z_CI s' → z_Fr R_X12_stands_309 r0 s' → (y_TA s') → (y_DD s') → (s' 309 19 = 12) → z_T (k s') (P_X12_stands_309 r0)) : ∀ (F : Nat) (s : z_M) (a1 : Int), z_CI s → z_Fr R_X12_stands_309 r0 s → (2 ≤ a1 ∧ a1 ≤ 13) → (y_TA s) → (y_DD s) → (s 309 19 = 12) → (2147483647 - a1 < (F : Int)) → z_T (fX12_stands_L11 fu 309 F s a1 k) (P_X12_stands_309 r0) := by
  intro F
  induction F with
  | zero =>
    intro s a1 c f b1 i0 i1 i2 hm
    have u31 := CI_b c (k := 309) (j := 19) bd_309_19
    have u32 := CI_b c (k := 309) (j := 20) bd_309_20
    have u33 := CI_b c (k := 309) (j := 36) bd_309_36
    have u34 := CI_b c (k := 316) (j := 0) bd_316_0
    have u35 := CI_b c (k := 329) (j := 0) bd_329_0
    have u36 := CI_b c (k := 329) (j := 1) bd_329_1
    exfalso; omega
  | succ F ih =>
    intro s a1 c f b1 i0 i1 i2 hm
    refine T_of (fX12_stands_L11.eq_2 ..) ?_
    have u1 := CI_b c (k := 309) (j := 19) bd_309_19
    have u2 := CI_b c (k := 309) (j := 20) bd_309_20
    have u3 := CI_b c (k := 309) (j := 36) bd_309_36
    have u4 := CI_b c (k := 316) (j := 0) bd_316_0
    have u5 := CI_b c (k := 329) (j := 0) bd_329_0
    have u6 := CI_b c (k := 329) (j := 1) bd_329_1
    refine T_ite (fun h7 => ?_) (fun h7 => ?_)
    · exact hk s c f i0 (by first | exact i1 | exact y_DD.z (by omega) (by omega)) (by omega)
    · refine T_leq (fun x8 e9 => ?_)
      first | (have w10 := z_wx e9 (by omega)) | (have w10 := z_wr e9)
      refine T_if1 (by decide +kernel) ?_
      refine T_useN (sf_X12_copies_309 hfu s c a1 x8 (by omega) (by omega) (by omega)) (fun v16 s11 hq => ?_)
      obtain ⟨c12, f13, o17, rfl⟩ := hq
      refine T_vN ?_
      have f14 := z_Fr.tr (R := R_X12_stands_309) f f13 rs_X12_copies_309__X12_stands_309
      have t20 : s11 309 19 = s 309 19 := f13 309 19 (by decide)
      have t21 : s11 309 20 = s 309 20 := f13 309 20 (by decide)
      have t22 : s11 309 36 = s 309 36 := f13 309 36 (by decide)
      have u23 := CI_b c12 (k := 316) (j := 0) bd_316_0
      have u24 := CI_b c12 (k := 329) (j := 0) bd_329_0
      have u25 := CI_b c12 (k := 329) (j := 1) bd_329_1
      have r26 := y_CP.TA o17 c (by omega) i0
      have r27 := y_CP.DDk o17 (by omega) i1
      refine T_leq (fun x28 e29 => ?_)
      first | (have w30 := z_wx e29 (by omega)) | (have w30 := z_wr e29)
      exact ih s11 x28 c12 f14 (by omega) r26 (by first | exact r27 | exact y_DD.z (by omega) (by omega)) (by omega) (by omega)
theorem sf_X12_stands_309 {fu : Nat} (hfu : 8589934592 ≤ fu) (r0 : z_M) (c0 : z_CI r0) (p0 : y_TA r0) (p1 : y_DD r0) : z_T (fX12_stands fu r0 309) (P_X12_stands_309 r0) := by
  refine T_of (fX12_stands.eq_1 ..) ?_
  have u1 := CI_b c0 (k := 309) (j := 19) bd_309_19
  have u2 := CI_b c0 (k := 309) (j := 20) bd_309_20
  have u3 := CI_b c0 (k := 309) (j := 36) bd_309_36
  have u4 := CI_b c0 (k := 316) (j := 0) bd_316_0
  have u5 := CI_b c0 (k := 329) (j := 0) bd_329_0
  have u6 := CI_b c0 (k := 329) (j := 1) bd_329_1
  refine T_if1 (by decide +kernel) ?_
  refine T_leq (fun x7 e8 => ?_)
  have u9 := CI_b c0 (k := 309) (j := 19) bd_309_19
  refine T_ite (fun h10 => ?_) (fun h10 => ?_)
  · exact sj_X12_stands_309_J41 hfu r0 r0 c0 z_Fr.rf p0 (by first | exact p1 | exact y_DD.z (by omega) (by omega)) (by omega)
  · refine sl_X12_stands_309_L11 hfu r0 (fun s11 c12 f13 g14 g15 g16 => ?_) fu r0 2 c0 z_Fr.rf (by omega) p0 (by first | exact p1 | exact y_DD.z (by omega) (by omega)) (by omega) (by omega)
    have u17 := CI_b c12 (k := 309) (j := 19) bd_309_19
    have u18 := CI_b c12 (k := 309) (j := 20) bd_309_20
    have u19 := CI_b c12 (k := 309) (j := 36) bd_309_36
    have u20 := CI_b c12 (k := 316) (j := 0) bd_316_0
    have u21 := CI_b c12 (k := 329) (j := 0) bd_329_0
    have u22 := CI_b c12 (k := 329) (j := 1) bd_329_1
    refine T_if1 (by decide +kernel) ?_
    refine T_leq (fun x23 e24 => ?_)
    have u25 := CI_b c12 (k := 309) (j := 19) bd_309_19
    refine T_leq (fun x26 e27 => ?_)
    first | (have w28 := z_wx e27 (by omega)) | (have w28 := z_wr e27)
    refine T_if1 (by decide +kernel) ?_
    refine T_upg c12 bd_309_19 (by omega) (fun s29 c30 g32 g33 e34 => ?_)
    have f31 := z_Fr.upf (R := R_X12_stands_309) f13 g32 g33 (Or.inr (Or.inr (⟨rfl, by decide⟩)))
    have t35 : s29 309 20 = s11 309 20 := g33 20 (by decide)
    have t36 : s29 309 36 = s11 309 36 := g33 36 (by decide)
    have t37 : s29 316 0 = s11 316 0 := g32 316 0 (by decide)
    have t38 : s29 329 0 = s11 329 0 := g32 329 0 (by decide)
    have t39 : s29 329 1 = s11 329 1 := g32 329 1 (by decide)
    have u40 := CI_b c30 (k := 309) (j := 19) bd_309_19
    have r41 := y_TA.fr g14 (fun a b h => g32 a b (by omega)) (fun a b h => g32 a b (by omega)) (fun a b h => g32 a b (by omega))
    have r42 := y_DD.fr g15 (g32 329 0 (by decide)) (g32 329 1 (by decide)) (fun b => g32 359 b (by decide)) (fun b => g32 374 b (by decide))
    exact sj_X12_stands_309_J41 hfu r0 s29 c30 f31 r41 (by first | exact r42 | exact y_DD.z (by omega) (by omega)) (by omega)
abbrev R_X12_reads_309 (a b : Int) : Prop := (316 ≤ a ∧ a ≤ 404) ∨ (407 ≤ a ∧ a ≤ 3223) ∨ (a = 309 ∧ (b = 2 ∨ b = 3 ∨ b = 4 ∨ b = 5 ∨ b = 6 ∨ b = 7 ∨ b = 19 ∨ b = 20 ∨ b = 36))
abbrev P_X12_reads_309 (r0 : z_M) : z_V → z_M → Prop := fun v s' => z_CI s' ∧ z_Fr R_X12_reads_309 r0 s' ∧ (y_TA s') ∧ (y_DD s') ∧ (y_B s') ∧ (y_K s') ∧ (s' 309 2 = 0) ∧ (∃ x, v = vI x ∧ -2147483648 ≤ x ∧ x ≤ 2147483647)
theorem rs_X12_readsPart_309__X12_reads_309 (a b : Int) (h : R_X12_readsPart_309 a b) : R_X12_reads_309 a b := (h.elim (fun h => (Or.inl (⟨by omega, by omega⟩))) (fun h => (h.elim (fun h => (Or.inl (⟨by omega, by omega⟩))) (fun h => (h.elim (fun h => (Or.inl (⟨by omega, by omega⟩))) (fun h => (h.elim (fun h => (Or.inl (⟨by omega, by omega⟩))) (fun h => (h.elim (fun h => (Or.inl (⟨by omega, by omega⟩))) (fun h => (h.elim (fun h => (Or.inl (⟨by omega, by omega⟩))) (fun h => (h.elim (fun h => (Or.inr (Or.inl (⟨by omega, by omega⟩)))) (fun h => (Or.inr (Or.inr (⟨h.1, by omega⟩)))))))))))))))))
theorem nq_X12_readsPart_309__316 (a b : Int) (h : 316 ≤ a ∧ a ≤ 328) : ¬ R_X12_readsPart_309 a b := by
  unfold R_X12_readsPart_309; omega
theorem nq_X12_readsPart_309__346 (a b : Int) (h : 346 ≤ a ∧ a ≤ 358) : ¬ R_X12_readsPart_309 a b := by
  unfold R_X12_readsPart_309; omega
theorem nq_X12_readsPart_309__361 (a b : Int) (h : 361 ≤ a ∧ a ≤ 373) : ¬ R_X12_readsPart_309 a b := by
  unfold R_X12_readsPart_309; omega
theorem nr_X12_readsPart_309__3220 (b : Int) : ¬ R_X12_readsPart_309 3220 b := by
  unfold R_X12_readsPart_309; omega
theorem nr_X12_readsPart_309__3221 (b : Int) : ¬ R_X12_readsPart_309 3221 b := by
  unfold R_X12_readsPart_309; omega
theorem nr_X12_readsPart_309__3222 (b : Int) : ¬ R_X12_readsPart_309 3222 b := by
  unfold R_X12_readsPart_309; omega
theorem nr_X12_readsPart_309__361 (b : Int) : ¬ R_X12_readsPart_309 361 b := by
  unfold R_X12_readsPart_309; omega
theorem nr_X12_readsPart_309__3438 (b : Int) : ¬ R_X12_readsPart_309 3438 b := by
  unfold R_X12_readsPart_309; omega
theorem nq_X12_readsPart_309__3452 (a b : Int) (h : 3452 ≤ a ∧ a ≤ 3651) : ¬ R_X12_readsPart_309 a b := by
  unfold R_X12_readsPart_309; omega
theorem sl_X12_reads_309_L25 {fu : Nat} (hfu : 8589934592 ≤ fu) (r0 : z_M) {k : z_M → z_O} (hk : ∀ (s' : z_M), z_CI s' → z_Fr R_X12_reads_309 r0 s' → (y_TA s') → (y_B s') → (y_K s') → (y_D s' (s' 329 0)) → (s' 329 1 ≤ s' 329 0) → (s' 309 2 = 0) → z_T (k s') (P_X12_reads_309 r0)) : ∀ (F : Nat) (s : z_M), z_CI s → z_Fr R_X12_reads_309 r0 s → (y_TA s) → (y_B s) → (y_K s) → (y_D s (s 329 0)) → (s 329 1 ≤ s 329 0) → (s 309 4 ≤ s 309 3 + 1) → (s 309 2 = 0) → (303 - s 309 4 + (if s 309 6 = 0 then 1 else 0) < (F : Int)) → z_T (fX12_reads_L25 fu 309 F s k) (P_X12_reads_309 r0) := by
  intro F
  induction F with
  | zero =>
    intro s c f i0 i1 i2 i3 i4 i5 i6 hm
    have u62 := CI_b c (k := 309) (j := 2) bd_309_2
    have u63 := CI_b c (k := 309) (j := 3) bd_309_3
    have u64 := CI_b c (k := 309) (j := 4) bd_309_4
    have u65 := CI_b c (k := 309) (j := 6) bd_309_6
    have u66 := CI_b c (k := 309) (j := 20) bd_309_20
    have u67 := CI_b c (k := 309) (j := 36) bd_309_36
    have u68 := CI_b c (k := 309) (j := 43) bd_309_43
    have u69 := CI_b c (k := 309) (j := 44) bd_309_44
    have u70 := CI_b c (k := 309) (j := 58) bd_309_58
    have u71 := CI_b c (k := 316) (j := 0) bd_316_0
    have u72 := CI_b c (k := 329) (j := 0) bd_329_0
    have u73 := CI_b c (k := 329) (j := 1) bd_329_1
    exfalso; omega
  | succ F ih =>
    intro s c f i0 i1 i2 i3 i4 i5 i6 hm
    refine T_of (fX12_reads_L25.eq_2 ..) ?_
    have u1 := CI_b c (k := 309) (j := 2) bd_309_2
    have u2 := CI_b c (k := 309) (j := 3) bd_309_3
    have u3 := CI_b c (k := 309) (j := 4) bd_309_4
    have u4 := CI_b c (k := 309) (j := 6) bd_309_6
    have u5 := CI_b c (k := 309) (j := 20) bd_309_20
    have u6 := CI_b c (k := 309) (j := 36) bd_309_36
    have u7 := CI_b c (k := 309) (j := 43) bd_309_43
    have u8 := CI_b c (k := 309) (j := 44) bd_309_44
    have u9 := CI_b c (k := 309) (j := 58) bd_309_58
    have u10 := CI_b c (k := 316) (j := 0) bd_316_0
    have u11 := CI_b c (k := 329) (j := 0) bd_329_0
    have u12 := CI_b c (k := 329) (j := 1) bd_329_1
    have t13 : s 309 43 = r0 309 43 := f 309 43 (by decide)
    have t14 : s 309 44 = r0 309 44 := f 309 44 (by decide)
    have t15 : s 309 58 = r0 309 58 := f 309 58 (by decide)
    refine T_if1 (by decide +kernel) ?_
    refine T_useI (sf_X12_fine_309 hfu s c) (fun v21 s16 hq => ?_)
    obtain ⟨c17, f18, ⟨x20, rfl, b22, b23, o24⟩⟩ := hq
    refine T_vI ?_
    have q25 := z_Fr.eq (fun a b h => h) f18
    subst q25
    refine T_ite (fun h26 => ?_) (fun h26 => ?_)
    · exact hk s c f i0 i1 (by first | exact i2 | exact y_K.b0 (by omega) | exact y_K.k0 (by omega) | exact y_K.bk (by omega)) (by first | exact y_D.cg i3 (by omega) | exact y_D.z (by omega) | exact y_D.ex i3 (by omega) (by omega)) (by omega) (by omega)
    · refine T_if1 (by decide +kernel) ?_
      refine T_leq (fun x27 e28 => ?_)
      have u29 := CI_b c (k := 309) (j := 4) bd_309_4
      refine T_if1 (by decide +kernel) ?_
      refine T_leq (fun x30 e31 => ?_)
      have u32 := CI_b c (k := 309) (j := 3) bd_309_3
      refine T_ite (fun h33 => ?_) (fun h33 => ?_)
      · exact hk s c f i0 i1 (by first | exact i2 | exact y_K.b0 (by omega) | exact y_K.k0 (by omega) | exact y_K.bk (by omega)) (by first | exact y_D.cg i3 (by omega) | exact y_D.z (by omega) | exact y_D.ex i3 (by omega) (by omega)) (by omega) (by omega)
      · refine T_if1 (by decide +kernel) ?_
        refine T_useN (sf_X12_readsPart_309 hfu s c (by first | exact y_D.cg i3 (by omega) | exact y_D.z (by omega) | exact y_D.ex i3 (by omega) (by omega)) (by omega) (by omega)) (fun v39 s34 hq => ?_)
        obtain ⟨c35, f36, o40, o41, o42, o43, o44, rfl⟩ := hq
        refine T_vN ?_
        have f37 := z_Fr.tr (R := R_X12_reads_309) f f36 rs_X12_readsPart_309__X12_reads_309
        have t47 : s34 309 2 = s 309 2 := f36 309 2 (by decide)
        have t48 : s34 309 3 = x30 := (f36 309 3 (by decide)).trans e31
        have t49 : s34 309 20 = s 309 20 := f36 309 20 (by decide)
        have t50 : s34 309 36 = s 309 36 := f36 309 36 (by decide)
        have t51 : s34 309 43 = s 309 43 := f36 309 43 (by decide)
        have t52 : s34 309 44 = s 309 44 := f36 309 44 (by decide)
        have t53 : s34 309 58 = s 309 58 := f36 309 58 (by decide)
        have t54 : s34 316 0 = s 316 0 := f36 316 0 (by decide)
        have u55 := CI_b c35 (k := 309) (j := 4) bd_309_4
        have u56 := CI_b c35 (k := 309) (j := 6) bd_309_6
        have u57 := CI_b c35 (k := 329) (j := 0) bd_329_0
        have u58 := CI_b c35 (k := 329) (j := 1) bd_329_1
        have r59 := y_TA.fr i0 (fun a b h => f36 a b (nq_X12_readsPart_309__316 a b h)) (fun a b h => f36 a b (nq_X12_readsPart_309__346 a b h)) (fun a b h => f36 a b (nq_X12_readsPart_309__361 a b h))
        have r60 := y_B.fr i1 (f36 309 20 (by decide)) (f36 316 0 (by decide)) (fun b => f36 3220 b (nr_X12_readsPart_309__3220 b)) (fun b => f36 3221 b (nr_X12_readsPart_309__3221 b)) (fun b => f36 3222 b (nr_X12_readsPart_309__3222 b)) (fun b => f36 361 b (nr_X12_readsPart_309__361 b))
        have r61 := y_K.fr i2 (by omega) (by omega) (f36 309 44 (by decide)) (f36 309 20 (by decide)) (f36 309 58 (by decide)) (fun b => f36 3438 b (nr_X12_readsPart_309__3438 b)) (fun b => f36 3220 b (nr_X12_readsPart_309__3220 b)) (fun a b h => f36 a b (nq_X12_readsPart_309__3452 a b h))
        exact ih s34 c35 f37 r59 r60 (by first | exact r61 | exact y_K.b0 (by omega) | exact y_K.k0 (by omega) | exact y_K.bk (by omega)) (by first | exact y_D.cg o40 (by omega) | exact y_D.z (by omega) | exact y_D.ex o40 (by omega) (by omega)) (by omega) (by omega) (by omega) (by omega)
theorem rs_X12_stands_309__X12_reads_309 (a b : Int) (h : R_X12_stands_309 a b) : R_X12_reads_309 a b := (h.elim (fun h => (Or.inl (⟨by omega, by omega⟩))) (fun h => (h.elim (fun h => (Or.inr (Or.inl (⟨by omega, by omega⟩)))) (fun h => (Or.inr (Or.inr (⟨h.1, by omega⟩)))))))
theorem sj_X12_reads_309_J50 {fu : Nat} (hfu : 8589934592 ≤ fu) (r0 s : z_M) (c : z_CI s) (f : z_Fr R_X12_reads_309 r0 s) (p0 : y_TA s) (p1 : y_B s) (p2 : y_K s) (p3 : y_D s (s 329 0)) (p4 : s 329 1 ≤ s 329 0) (p5 : s 309 2 = 0) : z_T (fX12_reads_J50 fu s 309) (P_X12_reads_309 r0) := by
  refine T_of (fX12_reads_J50.eq_1 ..) ?_
  have u1 := CI_b c (k := 309) (j := 2) bd_309_2
  have u2 := CI_b c (k := 309) (j := 3) bd_309_3
  have u3 := CI_b c (k := 309) (j := 4) bd_309_4
  have u4 := CI_b c (k := 309) (j := 6) bd_309_6
  have u5 := CI_b c (k := 309) (j := 20) bd_309_20
  have u6 := CI_b c (k := 309) (j := 36) bd_309_36
  have u7 := CI_b c (k := 309) (j := 43) bd_309_43
  have u8 := CI_b c (k := 309) (j := 44) bd_309_44
  have u9 := CI_b c (k := 309) (j := 58) bd_309_58
  have u10 := CI_b c (k := 316) (j := 0) bd_316_0
  have u11 := CI_b c (k := 329) (j := 0) bd_329_0
  have u12 := CI_b c (k := 329) (j := 1) bd_329_1
  have t13 : s 309 43 = r0 309 43 := f 309 43 (by decide)
  have t14 : s 309 44 = r0 309 44 := f 309 44 (by decide)
  have t15 : s 309 58 = r0 309 58 := f 309 58 (by decide)
  refine T_if1 (by decide +kernel) ?_
  refine T_leq (fun x16 e17 => ?_)
  have u18 := CI_b c (k := 309) (j := 7) bd_309_7
  refine T_if1 (by decide +kernel) ?_
  refine T_upg c bd_309_5 (by omega) (fun s19 c20 g22 g23 e24 => ?_)
  have f21 := z_Fr.upf (R := R_X12_reads_309) f g22 g23 (Or.inr (Or.inr (⟨rfl, by decide⟩)))
  have t25 : s19 309 2 = s 309 2 := g23 2 (by decide)
  have t26 : s19 309 3 = s 309 3 := g23 3 (by decide)
  have t27 : s19 309 4 = s 309 4 := g23 4 (by decide)
  have t28 : s19 309 6 = s 309 6 := g23 6 (by decide)
  have t29 : s19 309 20 = s 309 20 := g23 20 (by decide)
  have t30 : s19 309 36 = s 309 36 := g23 36 (by decide)
  have t31 : s19 309 43 = s 309 43 := g23 43 (by decide)
  have t32 : s19 309 44 = s 309 44 := g23 44 (by decide)
  have t33 : s19 309 58 = s 309 58 := g23 58 (by decide)
  have t34 : s19 316 0 = s 316 0 := g22 316 0 (by decide)
  have t35 : s19 329 0 = s 329 0 := g22 329 0 (by decide)
  have t36 : s19 329 1 = s 329 1 := g22 329 1 (by decide)
  have r37 := y_TA.fr p0 (fun a b h => g22 a b (by omega)) (fun a b h => g22 a b (by omega)) (fun a b h => g22 a b (by omega))
  have r38 := y_B.fr p1 (g23 20 (by decide)) (g22 316 0 (by decide)) (fun b => g22 3220 b (by decide)) (fun b => g22 3221 b (by decide)) (fun b => g22 3222 b (by decide)) (fun b => g22 361 b (by decide))
  have r39 := y_K.fr p2 (by omega) (by omega) (g23 44 (by decide)) (g23 20 (by decide)) (g23 58 (by decide)) (fun b => g22 3438 b (by decide)) (fun b => g22 3220 b (by decide)) (fun a b h => g22 a b (by omega))
  have r40 := y_D.fr p3 (fun b => g22 359 b (by decide)) (fun b => g22 374 b (by decide))
  refine T_if1 (by decide +kernel) ?_
  refine T_useI (sf_X12_fine_309 hfu s19 c20) (fun v46 s41 hq => ?_)
  obtain ⟨c42, f43, ⟨x45, rfl, b47, b48, o49⟩⟩ := hq
  refine T_vI ?_
  have q50 := z_Fr.eq (fun a b h => h) f43
  subst q50
  refine T_ite (fun h51 => ?_) (fun h51 => ?_)
  · refine T_if1 (by decide +kernel) ?_
    refine T_useN (sf_X12_stands_309 hfu s19 c20 r37 (by first | exact ⟨by omega, y_D.cg r40 (by omega)⟩ | exact y_DD.z (by omega) (by omega))) (fun v57 s52 hq => ?_)
    obtain ⟨c53, f54, o58, o59, o60, o61, rfl⟩ := hq
    refine T_vN ?_
    have f55 := z_Fr.tr (R := R_X12_reads_309) f21 f54 rs_X12_stands_309__X12_reads_309
    have t64 : s52 309 2 = s 309 2 := (f54 309 2 (by decide)).trans t25
    have t65 : s52 309 3 = s 309 3 := (f54 309 3 (by decide)).trans t26
    have t66 : s52 309 4 = s 309 4 := (f54 309 4 (by decide)).trans t27
    have t67 : s52 309 6 = s 309 6 := (f54 309 6 (by decide)).trans t28
    have t68 : s52 309 43 = s 309 43 := (f54 309 43 (by decide)).trans t31
    have t69 : s52 309 44 = s 309 44 := (f54 309 44 (by decide)).trans t32
    have t70 : s52 309 58 = s 309 58 := (f54 309 58 (by decide)).trans t33
    have u71 := CI_b c53 (k := 309) (j := 20) bd_309_20
    have u72 := CI_b c53 (k := 309) (j := 36) bd_309_36
    have u73 := CI_b c53 (k := 316) (j := 0) bd_316_0
    have u74 := CI_b c53 (k := 329) (j := 0) bd_329_0
    have u75 := CI_b c53 (k := 329) (j := 1) bd_329_1
    clear t25
    clear t26
    clear t27
    clear t28
    clear t31
    clear t32
    clear t33
    refine T_if1 (by decide +kernel) ?_
    refine T_leq (fun x76 e77 => ?_)
    have u78 := CI_b c53 (k := 309) (j := 20) bd_309_20
    exact T_ret ⟨c53, f55, o58, (by first | exact o59 | exact y_DD.z (by omega) (by omega)), o60, (by first | exact y_K.b0 (by omega) | exact y_K.k0 (by omega) | exact y_K.bk (by omega)), (by omega), ⟨x76, rfl, by omega, by omega⟩⟩
  · refine T_if1 (by decide +kernel) ?_
    refine T_leq (fun x79 e80 => ?_)
    have u81 := CI_b c20 (k := 309) (j := 6) bd_309_6
    refine T_leq (fun x82 e83 => ?_)
    first | (have w84 := z_wx e83 (by omega)) | (have w84 := z_wr e83)
    exact T_ret ⟨c20, f21, r37, (by first | exact ⟨by omega, y_D.cg r40 (by omega)⟩ | exact y_DD.z (by omega) (by omega)), r38, (by first | exact r39 | exact y_K.b0 (by omega) | exact y_K.k0 (by omega) | exact y_K.bk (by omega)), (by omega), ⟨x82, rfl, by omega, by omega⟩⟩
set_option maxHeartbeats 4000000 in
theorem sf_X12_reads_309 {fu : Nat} (hfu : 8589934592 ≤ fu) (r0 : z_M) (c0 : z_CI r0) (a1 : Int) (b1 : 0 ≤ a1 ∧ a1 ≤ 300) (p0 : y_TA r0) (p1 : y_DD r0) (p2 : y_B r0) (p3 : y_K r0) : z_T (fX12_reads fu r0 309 a1) (P_X12_reads_309 r0) := by
  refine T_of (fX12_reads.eq_1 ..) ?_
  have u1 := CI_b c0 (k := 309) (j := 2) bd_309_2
  have u2 := CI_b c0 (k := 309) (j := 3) bd_309_3
  have u3 := CI_b c0 (k := 309) (j := 4) bd_309_4
  have u4 := CI_b c0 (k := 309) (j := 6) bd_309_6
  have u5 := CI_b c0 (k := 309) (j := 20) bd_309_20
  have u6 := CI_b c0 (k := 309) (j := 36) bd_309_36
  have u7 := CI_b c0 (k := 309) (j := 43) bd_309_43
  have u8 := CI_b c0 (k := 309) (j := 44) bd_309_44
  have u9 := CI_b c0 (k := 309) (j := 58) bd_309_58
  have u10 := CI_b c0 (k := 316) (j := 0) bd_316_0
  have u11 := CI_b c0 (k := 329) (j := 0) bd_329_0
  have u12 := CI_b c0 (k := 329) (j := 1) bd_329_1
  have n13 := (p1).1
  refine T_if1 (by decide +kernel) ?_
  refine T_upg c0 bd_309_2 (by omega) (fun s14 c15 g17 g18 e19 => ?_)
  have f16 := z_Fr.upf (R := R_X12_reads_309) z_Fr.rf g17 g18 (Or.inr (Or.inr (⟨rfl, by decide⟩)))
  have t20 : s14 309 3 = r0 309 3 := g18 3 (by decide)
  have t21 : s14 309 4 = r0 309 4 := g18 4 (by decide)
  have t22 : s14 309 6 = r0 309 6 := g18 6 (by decide)
  have t23 : s14 309 20 = r0 309 20 := g18 20 (by decide)
  have t24 : s14 309 36 = r0 309 36 := g18 36 (by decide)
  have t25 : s14 309 43 = r0 309 43 := g18 43 (by decide)
  have t26 : s14 309 44 = r0 309 44 := g18 44 (by decide)
  have t27 : s14 309 58 = r0 309 58 := g18 58 (by decide)
  have t28 : s14 316 0 = r0 316 0 := g17 316 0 (by decide)
  have t29 : s14 329 0 = r0 329 0 := g17 329 0 (by decide)
  have t30 : s14 329 1 = r0 329 1 := g17 329 1 (by decide)
  have u31 := CI_b c15 (k := 309) (j := 2) bd_309_2
  have r32 := y_TA.fr p0 (fun a b h => g17 a b (by omega)) (fun a b h => g17 a b (by omega)) (fun a b h => g17 a b (by omega))
  have r33 := y_DD.fr p1 (g17 329 0 (by decide)) (g17 329 1 (by decide)) (fun b => g17 359 b (by decide)) (fun b => g17 374 b (by decide))
  have r34 := y_B.fr p2 (g18 20 (by decide)) (g17 316 0 (by decide)) (fun b => g17 3220 b (by decide)) (fun b => g17 3221 b (by decide)) (fun b => g17 3222 b (by decide)) (fun b => g17 361 b (by decide))
  have r35 := y_K.fr p3 (by omega) (by omega) (g18 44 (by decide)) (g18 20 (by decide)) (g18 58 (by decide)) (fun b => g17 3438 b (by decide)) (fun b => g17 3220 b (by decide)) (fun a b h => g17 a b (by omega))
  refine T_if1 (by decide +kernel) ?_
  refine T_upg c15 bd_309_3 (by omega) (fun s36 c37 g39 g40 e41 => ?_)
  have f38 := z_Fr.upf (R := R_X12_reads_309) f16 g39 g40 (Or.inr (Or.inr (⟨rfl, by decide⟩)))
  have t42 : s36 309 2 = s14 309 2 := g40 2 (by decide)
  have t43 : s36 309 4 = r0 309 4 := (g40 4 (by decide)).trans t21
  have t44 : s36 309 6 = r0 309 6 := (g40 6 (by decide)).trans t22
  have t45 : s36 309 20 = r0 309 20 := (g40 20 (by decide)).trans t23
  have t46 : s36 309 36 = r0 309 36 := (g40 36 (by decide)).trans t24
  have t47 : s36 309 43 = r0 309 43 := (g40 43 (by decide)).trans t25
  have t48 : s36 309 44 = r0 309 44 := (g40 44 (by decide)).trans t26
  have t49 : s36 309 58 = r0 309 58 := (g40 58 (by decide)).trans t27
  have t50 : s36 316 0 = r0 316 0 := (g39 316 0 (by decide)).trans t28
  have t51 : s36 329 0 = r0 329 0 := (g39 329 0 (by decide)).trans t29
  have t52 : s36 329 1 = r0 329 1 := (g39 329 1 (by decide)).trans t30
  have u53 := CI_b c37 (k := 309) (j := 3) bd_309_3
  have r54 := y_TA.fr r32 (fun a b h => g39 a b (by omega)) (fun a b h => g39 a b (by omega)) (fun a b h => g39 a b (by omega))
  have r55 := y_DD.fr r33 (g39 329 0 (by decide)) (g39 329 1 (by decide)) (fun b => g39 359 b (by decide)) (fun b => g39 374 b (by decide))
  have r56 := y_B.fr r34 (g40 20 (by decide)) (g39 316 0 (by decide)) (fun b => g39 3220 b (by decide)) (fun b => g39 3221 b (by decide)) (fun b => g39 3222 b (by decide)) (fun b => g39 361 b (by decide))
  have r57 := y_K.fr r35 (by omega) (by omega) (g40 44 (by decide)) (g40 20 (by decide)) (g40 58 (by decide)) (fun b => g39 3438 b (by decide)) (fun b => g39 3220 b (by decide)) (fun a b h => g39 a b (by omega))
  clear t21
  clear t22
  clear t23
  clear t24
  clear t25
  clear t26
  clear t27
  clear t28
  clear t29
  clear t30
  refine T_if1 (by decide +kernel) ?_
  refine T_upg c37 bd_309_4 (by omega) (fun s58 c59 g61 g62 e63 => ?_)
  have f60 := z_Fr.upf (R := R_X12_reads_309) f38 g61 g62 (Or.inr (Or.inr (⟨rfl, by decide⟩)))
  have t64 : s58 309 2 = s14 309 2 := (g62 2 (by decide)).trans t42
  have t65 : s58 309 3 = s36 309 3 := g62 3 (by decide)
  have t66 : s58 309 6 = r0 309 6 := (g62 6 (by decide)).trans t44
  have t67 : s58 309 20 = r0 309 20 := (g62 20 (by decide)).trans t45
  have t68 : s58 309 36 = r0 309 36 := (g62 36 (by decide)).trans t46
  have t69 : s58 309 43 = r0 309 43 := (g62 43 (by decide)).trans t47
  have t70 : s58 309 44 = r0 309 44 := (g62 44 (by decide)).trans t48
  have t71 : s58 309 58 = r0 309 58 := (g62 58 (by decide)).trans t49
  have t72 : s58 316 0 = r0 316 0 := (g61 316 0 (by decide)).trans t50
  have t73 : s58 329 0 = r0 329 0 := (g61 329 0 (by decide)).trans t51
  have t74 : s58 329 1 = r0 329 1 := (g61 329 1 (by decide)).trans t52
  have u75 := CI_b c59 (k := 309) (j := 4) bd_309_4
  have r76 := y_TA.fr r54 (fun a b h => g61 a b (by omega)) (fun a b h => g61 a b (by omega)) (fun a b h => g61 a b (by omega))
  have r77 := y_DD.fr r55 (g61 329 0 (by decide)) (g61 329 1 (by decide)) (fun b => g61 359 b (by decide)) (fun b => g61 374 b (by decide))
  have r78 := y_B.fr r56 (g62 20 (by decide)) (g61 316 0 (by decide)) (fun b => g61 3220 b (by decide)) (fun b => g61 3221 b (by decide)) (fun b => g61 3222 b (by decide)) (fun b => g61 361 b (by decide))
  have r79 := y_K.fr r57 (by omega) (by omega) (g62 44 (by decide)) (g62 20 (by decide)) (g62 58 (by decide)) (fun b => g61 3438 b (by decide)) (fun b => g61 3220 b (by decide)) (fun a b h => g61 a b (by omega))
  clear t42
  clear t44
  clear t45
  clear t46
  clear t47
  clear t48
  clear t49
  clear t50
  clear t51
  clear t52
  refine T_if1 (by decide +kernel) ?_
  refine T_upg c59 bd_309_6 (by omega) (fun s80 c81 g83 g84 e85 => ?_)
  have f82 := z_Fr.upf (R := R_X12_reads_309) f60 g83 g84 (Or.inr (Or.inr (⟨rfl, by decide⟩)))
  have t86 : s80 309 2 = s14 309 2 := (g84 2 (by decide)).trans t64
  have t87 : s80 309 3 = s36 309 3 := (g84 3 (by decide)).trans t65
  have t88 : s80 309 4 = s58 309 4 := g84 4 (by decide)
  have t89 : s80 309 20 = r0 309 20 := (g84 20 (by decide)).trans t67
  have t90 : s80 309 36 = r0 309 36 := (g84 36 (by decide)).trans t68
  have t91 : s80 309 43 = r0 309 43 := (g84 43 (by decide)).trans t69
  have t92 : s80 309 44 = r0 309 44 := (g84 44 (by decide)).trans t70
  have t93 : s80 309 58 = r0 309 58 := (g84 58 (by decide)).trans t71
  have t94 : s80 316 0 = r0 316 0 := (g83 316 0 (by decide)).trans t72
  have t95 : s80 329 0 = r0 329 0 := (g83 329 0 (by decide)).trans t73
  have t96 : s80 329 1 = r0 329 1 := (g83 329 1 (by decide)).trans t74
  have u97 := CI_b c81 (k := 309) (j := 6) bd_309_6
  have r98 := y_TA.fr r76 (fun a b h => g83 a b (by omega)) (fun a b h => g83 a b (by omega)) (fun a b h => g83 a b (by omega))
  have r99 := y_DD.fr r77 (g83 329 0 (by decide)) (g83 329 1 (by decide)) (fun b => g83 359 b (by decide)) (fun b => g83 374 b (by decide))
  have r100 := y_B.fr r78 (g84 20 (by decide)) (g83 316 0 (by decide)) (fun b => g83 3220 b (by decide)) (fun b => g83 3221 b (by decide)) (fun b => g83 3222 b (by decide)) (fun b => g83 361 b (by decide))
  have r101 := y_K.fr r79 (by omega) (by omega) (g84 44 (by decide)) (g84 20 (by decide)) (g84 58 (by decide)) (fun b => g83 3438 b (by decide)) (fun b => g83 3220 b (by decide)) (fun a b h => g83 a b (by omega))
  clear t64
  clear t65
  clear t67
  clear t68
  clear t69
  clear t70
  clear t71
  clear t72
  clear t73
  clear t74
  refine T_if1 (by decide +kernel) ?_
  refine T_upg c81 bd_309_7 (by omega) (fun s102 c103 g105 g106 e107 => ?_)
  have f104 := z_Fr.upf (R := R_X12_reads_309) f82 g105 g106 (Or.inr (Or.inr (⟨rfl, by decide⟩)))
  have t108 : s102 309 2 = s14 309 2 := (g106 2 (by decide)).trans t86
  have t109 : s102 309 3 = s36 309 3 := (g106 3 (by decide)).trans t87
  have t110 : s102 309 4 = s58 309 4 := (g106 4 (by decide)).trans t88
  have t111 : s102 309 6 = s80 309 6 := g106 6 (by decide)
  have t112 : s102 309 20 = r0 309 20 := (g106 20 (by decide)).trans t89
  have t113 : s102 309 36 = r0 309 36 := (g106 36 (by decide)).trans t90
  have t114 : s102 309 43 = r0 309 43 := (g106 43 (by decide)).trans t91
  have t115 : s102 309 44 = r0 309 44 := (g106 44 (by decide)).trans t92
  have t116 : s102 309 58 = r0 309 58 := (g106 58 (by decide)).trans t93
  have t117 : s102 316 0 = r0 316 0 := (g105 316 0 (by decide)).trans t94
  have t118 : s102 329 0 = r0 329 0 := (g105 329 0 (by decide)).trans t95
  have t119 : s102 329 1 = r0 329 1 := (g105 329 1 (by decide)).trans t96
  have r120 := y_TA.fr r98 (fun a b h => g105 a b (by omega)) (fun a b h => g105 a b (by omega)) (fun a b h => g105 a b (by omega))
  have r121 := y_DD.fr r99 (g105 329 0 (by decide)) (g105 329 1 (by decide)) (fun b => g105 359 b (by decide)) (fun b => g105 374 b (by decide))
  have r122 := y_B.fr r100 (g106 20 (by decide)) (g105 316 0 (by decide)) (fun b => g105 3220 b (by decide)) (fun b => g105 3221 b (by decide)) (fun b => g105 3222 b (by decide)) (fun b => g105 361 b (by decide))
  have r123 := y_K.fr r101 (by omega) (by omega) (g106 44 (by decide)) (g106 20 (by decide)) (g106 58 (by decide)) (fun b => g105 3438 b (by decide)) (fun b => g105 3220 b (by decide)) (fun a b h => g105 a b (by omega))
  clear t86
  clear t87
  clear t88
  clear t89
  clear t90
  clear t91
  clear t92
  clear t93
  clear t94
  clear t95
  clear t96
  refine sl_X12_reads_309_L25 hfu r0 (fun s124 c125 f126 g127 g128 g129 g130 g131 g132 => ?_) fu s102 c103 f104 r120 r122 (by first | exact r123 | exact y_K.b0 (by omega) | exact y_K.k0 (by omega) | exact y_K.bk (by omega)) (by first | exact y_D.z (by omega) | exact y_D.cg (And.right r121) (by omega)) (by omega) (by omega) (by omega) (by omega)
  have u133 := CI_b c125 (k := 309) (j := 2) bd_309_2
  have u134 := CI_b c125 (k := 309) (j := 3) bd_309_3
  have u135 := CI_b c125 (k := 309) (j := 4) bd_309_4
  have u136 := CI_b c125 (k := 309) (j := 6) bd_309_6
  have u137 := CI_b c125 (k := 309) (j := 20) bd_309_20
  have u138 := CI_b c125 (k := 309) (j := 36) bd_309_36
  have u139 := CI_b c125 (k := 309) (j := 43) bd_309_43
  have u140 := CI_b c125 (k := 309) (j := 44) bd_309_44
  have u141 := CI_b c125 (k := 309) (j := 58) bd_309_58
  have u142 := CI_b c125 (k := 316) (j := 0) bd_316_0
  have u143 := CI_b c125 (k := 329) (j := 0) bd_329_0
  have u144 := CI_b c125 (k := 329) (j := 1) bd_329_1
  have t145 : s124 309 43 = r0 309 43 := f126 309 43 (by decide)
  have t146 : s124 309 44 = r0 309 44 := f126 309 44 (by decide)
  have t147 : s124 309 58 = r0 309 58 := f126 309 58 (by decide)
  exact sj_X12_reads_309_J50 hfu r0 s124 c125 f126 g127 g128 (by first | exact g129 | exact y_K.b0 (by omega) | exact y_K.k0 (by omega) | exact y_K.bk (by omega)) (by first | exact y_D.cg g130 (by omega) | exact y_D.z (by omega) | exact y_D.ex g130 (by omega) (by omega)) (by omega) (by omega)
abbrev R_X12_text_309 (a b : Int) : Prop := (310 ≤ a ∧ a ≤ 310) ∨ (316 ≤ a ∧ a ≤ 404) ∨ (407 ≤ a ∧ a ≤ 3223) ∨ (a = 309 ∧ (b = 0 ∨ b = 2 ∨ b = 3 ∨ b = 4 ∨ b = 5 ∨ b = 6 ∨ b = 7 ∨ b = 19 ∨ b = 20 ∨ b = 36))
abbrev P_X12_text_309 (r0 : z_M) (a1 : Int) : z_V → z_M → Prop := fun v s' => z_CI s' ∧ z_Fr R_X12_text_309 r0 s' ∧ (y_DD s') ∧ ((0 ≤ a1 ∧ a1 ≤ r0 309 2 ∧ s' 309 2 = 0) ∨ ((a1 < 0 ∨ r0 309 2 < a1) ∧ s' 309 2 = r0 309 2)) ∧ (y_TA s') ∧ (y_B s') ∧ (y_K s') ∧ (∃ x, v = vI x ∧ -2147483648 ≤ x ∧ x ≤ 2147483647)
theorem rs_X12_bad_309__X12_text_309 (a b : Int) (h : R_X12_bad_309 a b) : R_X12_text_309 a b := (h.elim (fun h => (Or.inl (⟨by omega, by omega⟩))) (fun h => (Or.inr (Or.inr (Or.inr (⟨h.1, by omega⟩))))))
theorem nr_X12_bad_309__359 (b : Int) : ¬ R_X12_bad_309 359 b := by
  unfold R_X12_bad_309; omega
theorem nr_X12_bad_309__374 (b : Int) : ¬ R_X12_bad_309 374 b := by
  unfold R_X12_bad_309; omega
theorem nq_X12_bad_309__316 (a b : Int) (h : 316 ≤ a ∧ a ≤ 328) : ¬ R_X12_bad_309 a b := by
  unfold R_X12_bad_309; omega
theorem nq_X12_bad_309__346 (a b : Int) (h : 346 ≤ a ∧ a ≤ 358) : ¬ R_X12_bad_309 a b := by
  unfold R_X12_bad_309; omega
theorem nq_X12_bad_309__361 (a b : Int) (h : 361 ≤ a ∧ a ≤ 373) : ¬ R_X12_bad_309 a b := by
  unfold R_X12_bad_309; omega
theorem nr_X12_bad_309__3220 (b : Int) : ¬ R_X12_bad_309 3220 b := by
  unfold R_X12_bad_309; omega
theorem nr_X12_bad_309__3221 (b : Int) : ¬ R_X12_bad_309 3221 b := by
  unfold R_X12_bad_309; omega
theorem nr_X12_bad_309__3222 (b : Int) : ¬ R_X12_bad_309 3222 b := by
  unfold R_X12_bad_309; omega
theorem nr_X12_bad_309__361 (b : Int) : ¬ R_X12_bad_309 361 b := by
  unfold R_X12_bad_309; omega
theorem nr_X12_bad_309__3438 (b : Int) : ¬ R_X12_bad_309 3438 b := by
  unfold R_X12_bad_309; omega
theorem nq_X12_bad_309__3452 (a b : Int) (h : 3452 ≤ a ∧ a ≤ 3651) : ¬ R_X12_bad_309 a b := by
  unfold R_X12_bad_309; omega
theorem sl_X12_text_309_L35 {fu : Nat} (hfu : 8589934592 ≤ fu) (r0 : z_M) (a1 : Int) (b1 : 0 ≤ a1 ∧ a1 ≤ 300) {k : z_M → z_O} (hk : ∀ (s' : z_M), z_CI s' → z_Fr R_X12_text_309 r0 s' → (s' 329 0 = 0) → (s' 329 1 = 0) → (s' 309 2 = r0 309 2) → (y_TA s') → (y_B s') → (y_K s') → z_T (k s') (P_X12_text_309 r0 a1)) : ∀ (F : Nat) (s : z_M) (a2 : Int), z_CI s → z_Fr R_X12_text_309 r0 s → (0 ≤ a2 ∧ a2 ≤ 3) → (a2 ≤ 0 ∨ s 329 0 = 0) → (a2 ≤ 1 ∨ s 329 1 = 0) → (s 309 2 = r0 309 2) → (y_TA s) → (y_B s) → (y_K s) → (2147483647 - a2 < (F : Int)) → z_T (fX12_text_L35 fu 309 a1 F s a2 k) (P_X12_text_309 r0 a1) := by
  intro F
  induction F with
  | zero =>
    intro s a2 c f b2 i0 i1 i2 i3 i4 i5 hm
    have u39 := CI_b c (k := 309) (j := 0) bd_309_0
    have u40 := CI_b c (k := 309) (j := 2) bd_309_2
    have u41 := CI_b c (k := 309) (j := 20) bd_309_20
    have u42 := CI_b c (k := 309) (j := 36) bd_309_36
    have u43 := CI_b c (k := 309) (j := 43) bd_309_43
    have u44 := CI_b c (k := 309) (j := 44) bd_309_44
    have u45 := CI_b c (k := 309) (j := 58) bd_309_58
    have u46 := CI_b c (k := 316) (j := 0) bd_316_0
    have u47 := CI_b c (k := 329) (j := 0) bd_329_0
    have u48 := CI_b c (k := 329) (j := 1) bd_329_1
    exfalso; omega
  | succ F ih =>
    intro s a2 c f b2 i0 i1 i2 i3 i4 i5 hm
    refine T_of (fX12_text_L35.eq_2 ..) ?_
    have u1 := CI_b c (k := 309) (j := 0) bd_309_0
    have u2 := CI_b c (k := 309) (j := 2) bd_309_2
    have u3 := CI_b c (k := 309) (j := 20) bd_309_20
    have u4 := CI_b c (k := 309) (j := 36) bd_309_36
    have u5 := CI_b c (k := 309) (j := 43) bd_309_43
    have u6 := CI_b c (k := 309) (j := 44) bd_309_44
    have u7 := CI_b c (k := 309) (j := 58) bd_309_58
    have u8 := CI_b c (k := 316) (j := 0) bd_316_0
    have u9 := CI_b c (k := 329) (j := 0) bd_329_0
    have u10 := CI_b c (k := 329) (j := 1) bd_329_1
    have t11 : s 309 43 = r0 309 43 := f 309 43 (by decide)
    have t12 : s 309 44 = r0 309 44 := f 309 44 (by decide)
    have t13 : s 309 58 = r0 309 58 := f 309 58 (by decide)
    refine T_ite (fun h14 => ?_) (fun h14 => ?_)
    · exact hk s c f (by omega) (by omega) (by omega) i3 i4 (by first | exact i5 | exact y_K.b0 (by omega) | exact y_K.k0 (by omega) | exact y_K.bk (by omega))
    · refine T_if1 (by decide +kernel) ?_
      refine T_let 315 (by decide +kernel) ?_
      refine T_if1 (z_ixl (n := 14) (by decide +kernel) (by omega) (by omega)) ?_
      refine T_let 329 (by decide +kernel) ?_
      refine T_if1 (z_ixl (n := 3) (by decide +kernel) (by omega) (by omega)) ?_
      refine T_upg c (z_bde _ _) (z_bd0 _ _) (fun s15 c16 g18 g19 e20 => ?_)
      have f17 := z_Fr.up (R := R_X12_text_309) f g18 (fun _ => (Or.inr (Or.inl (⟨by decide, by decide⟩))))
      have t21 : s15 309 0 = s 309 0 := g18 309 0 (by decide)
      have t22 : s15 309 2 = s 309 2 := g18 309 2 (by decide)
      have t23 : s15 309 20 = s 309 20 := g18 309 20 (by decide)
      have t24 : s15 309 36 = s 309 36 := g18 309 36 (by decide)
      have t25 : s15 309 43 = s 309 43 := g18 309 43 (by decide)
      have t26 : s15 309 44 = s 309 44 := g18 309 44 (by decide)
      have t27 : s15 309 58 = s 309 58 := g18 309 58 (by decide)
      have t28 : s15 316 0 = s 316 0 := g18 316 0 (by decide)
      have u29 := CI_b c16 (k := 329) (j := 0) bd_329_0
      have u30 := CI_b c16 (k := 329) (j := 1) bd_329_1
      have r31 := y_TA.fr i3 (fun a b h => g18 a b (by omega)) (fun a b h => g18 a b (by omega)) (fun a b h => g18 a b (by omega))
      have r32 := y_B.fr i4 (g18 309 20 (by decide)) (g18 316 0 (by decide)) (fun b => g18 3220 b (by decide)) (fun b => g18 3221 b (by decide)) (fun b => g18 3222 b (by decide)) (fun b => g18 361 b (by decide))
      have r33 := y_K.fr i5 (by omega) (by omega) (g18 309 44 (by decide)) (g18 309 20 (by decide)) (g18 309 58 (by decide)) (fun b => g18 3438 b (by decide)) (fun b => g18 3220 b (by decide)) (fun a b h => g18 a b (by omega))
      have n34 := z_pt g19 e20 0
      have n35 := z_pt g19 e20 1
      refine T_leq (fun x36 e37 => ?_)
      first | (have w38 := z_wx e37 (by omega)) | (have w38 := z_wr e37)
      exact ih s15 x36 c16 f17 (by omega) (by omega) (by omega) (by omega) r31 r32 (by first | exact r33 | exact y_K.b0 (by omega) | exact y_K.k0 (by omega) | exact y_K.bk (by omega)) (by omega)
theorem rs_X12_reads_309__X12_text_309 (a b : Int) (h : R_X12_reads_309 a b) : R_X12_text_309 a b := (h.elim (fun h => (Or.inr (Or.inl (⟨by omega, by omega⟩)))) (fun h => (h.elim (fun h => (Or.inr (Or.inr (Or.inl (⟨by omega, by omega⟩))))) (fun h => (Or.inr (Or.inr (Or.inr (⟨h.1, by omega⟩))))))))
theorem sj_X12_text_309_J23 {fu : Nat} (hfu : 8589934592 ≤ fu) (r0 s : z_M) (c : z_CI s) (f : z_Fr R_X12_text_309 r0 s) (a1 : Int) (t1 : Int) (b1 : -2147483648 ≤ a1 ∧ a1 ≤ 2147483647) (d1 : 0 ≤ t1 ∧ t1 ≤ 1) (p0 : t1 = 1 ∨ (0 ≤ a1 ∧ a1 ≤ s 309 2)) (p1 : s 309 0 = 0) (p2 : t1 = 0 ∨ a1 < 0 ∨ s 309 2 < a1) (p3 : y_DD s) (p4 : s 309 2 = r0 309 2) (p5 : y_TA s) (p6 : y_B s) (p7 : y_K s) : z_T (fX12_text_J23 fu s 309 a1 309 t1) (P_X12_text_309 r0 a1) := by
  refine T_of (fX12_text_J23.eq_1 ..) ?_
  have u1 := CI_b c (k := 309) (j := 0) bd_309_0
  have u2 := CI_b c (k := 309) (j := 2) bd_309_2
  have u3 := CI_b c (k := 309) (j := 20) bd_309_20
  have u4 := CI_b c (k := 309) (j := 36) bd_309_36
  have u5 := CI_b c (k := 309) (j := 43) bd_309_43
  have u6 := CI_b c (k := 309) (j := 44) bd_309_44
  have u7 := CI_b c (k := 309) (j := 58) bd_309_58
  have u8 := CI_b c (k := 316) (j := 0) bd_316_0
  have u9 := CI_b c (k := 329) (j := 0) bd_329_0
  have u10 := CI_b c (k := 329) (j := 1) bd_329_1
  have t11 : s 309 43 = r0 309 43 := f 309 43 (by decide)
  have t12 : s 309 44 = r0 309 44 := f 309 44 (by decide)
  have t13 : s 309 58 = r0 309 58 := f 309 58 (by decide)
  refine T_if1 (by decide +kernel) ?_
  refine T_useI (sf_X12_bad_309 hfu s c t1 1 1 (by omega) (by omega) (by omega) (by omega)) (fun v19 s14 hq => ?_)
  obtain ⟨c15, f16, o20, ⟨x18, rfl, b21, b22, o23, o24⟩⟩ := hq
  refine T_vI ?_
  have f17 := z_Fr.tr (R := R_X12_text_309) f f16 rs_X12_bad_309__X12_text_309
  have t25 : s14 309 2 = s 309 2 := f16 309 2 (by decide)
  have t26 : s14 309 20 = s 309 20 := f16 309 20 (by decide)
  have t27 : s14 309 36 = s 309 36 := f16 309 36 (by decide)
  have t28 : s14 309 43 = s 309 43 := f16 309 43 (by decide)
  have t29 : s14 309 44 = s 309 44 := f16 309 44 (by decide)
  have t30 : s14 309 58 = s 309 58 := f16 309 58 (by decide)
  have t31 : s14 316 0 = s 316 0 := f16 316 0 (by decide)
  have t32 : s14 329 0 = s 329 0 := f16 329 0 (by decide)
  have t33 : s14 329 1 = s 329 1 := f16 329 1 (by decide)
  have u34 := CI_b c15 (k := 309) (j := 0) bd_309_0
  have r35 := y_DD.fr p3 (f16 329 0 (by decide)) (f16 329 1 (by decide)) (fun b => f16 359 b (nr_X12_bad_309__359 b)) (fun b => f16 374 b (nr_X12_bad_309__374 b))
  have r36 := y_TA.fr p5 (fun a b h => f16 a b (nq_X12_bad_309__316 a b h)) (fun a b h => f16 a b (nq_X12_bad_309__346 a b h)) (fun a b h => f16 a b (nq_X12_bad_309__361 a b h))
  have r37 := y_B.fr p6 (f16 309 20 (by decide)) (f16 316 0 (by decide)) (fun b => f16 3220 b (nr_X12_bad_309__3220 b)) (fun b => f16 3221 b (nr_X12_bad_309__3221 b)) (fun b => f16 3222 b (nr_X12_bad_309__3222 b)) (fun b => f16 361 b (nr_X12_bad_309__361 b))
  have r38 := y_K.fr p7 (by omega) (by omega) (f16 309 44 (by decide)) (f16 309 20 (by decide)) (f16 309 58 (by decide)) (fun b => f16 3438 b (nr_X12_bad_309__3438 b)) (fun b => f16 3220 b (nr_X12_bad_309__3220 b)) (fun a b h => f16 a b (nq_X12_bad_309__3452 a b h))
  refine T_ite (fun h39 => ?_) (fun h39 => ?_)
  · refine sl_X12_text_309_L35 hfu r0 a1 (by omega) (fun s40 c41 f42 g43 g44 g45 g46 g47 g48 => ?_) fu s14 0 c15 f17 (by omega) (by omega) (by omega) (by omega) r36 r37 (by first | exact r38 | exact y_K.b0 (by omega) | exact y_K.k0 (by omega) | exact y_K.bk (by omega)) (by omega)
    have u49 := CI_b c41 (k := 309) (j := 0) bd_309_0
    have u50 := CI_b c41 (k := 309) (j := 2) bd_309_2
    have u51 := CI_b c41 (k := 309) (j := 20) bd_309_20
    have u52 := CI_b c41 (k := 309) (j := 36) bd_309_36
    have u53 := CI_b c41 (k := 309) (j := 43) bd_309_43
    have u54 := CI_b c41 (k := 309) (j := 44) bd_309_44
    have u55 := CI_b c41 (k := 309) (j := 58) bd_309_58
    have u56 := CI_b c41 (k := 316) (j := 0) bd_316_0
    have u57 := CI_b c41 (k := 329) (j := 0) bd_329_0
    have u58 := CI_b c41 (k := 329) (j := 1) bd_329_1
    have t59 : s40 309 43 = r0 309 43 := f42 309 43 (by decide)
    have t60 : s40 309 44 = r0 309 44 := f42 309 44 (by decide)
    have t61 : s40 309 58 = r0 309 58 := f42 309 58 (by decide)
    refine T_if1 (by decide +kernel) ?_
    refine T_useI (sf_X12_reads_309 hfu s40 c41 a1 (by omega) g46 (by first | exact y_DD.z (by omega) (by omega)) g47 (by first | exact g48 | exact y_K.b0 (by omega) | exact y_K.k0 (by omega) | exact y_K.bk (by omega))) (fun v67 s62 hq => ?_)
    obtain ⟨c63, f64, o68, o69, o70, o71, o72, ⟨x66, rfl, b73, b74⟩⟩ := hq
    refine T_vI ?_
    have f65 := z_Fr.tr (R := R_X12_text_309) f42 f64 rs_X12_reads_309__X12_text_309
    have t75 : s62 309 0 = s40 309 0 := f64 309 0 (by decide)
    have t76 : s62 309 43 = s40 309 43 := f64 309 43 (by decide)
    have t77 : s62 309 44 = s40 309 44 := f64 309 44 (by decide)
    have t78 : s62 309 58 = s40 309 58 := f64 309 58 (by decide)
    have u79 := CI_b c63 (k := 309) (j := 2) bd_309_2
    have u80 := CI_b c63 (k := 309) (j := 20) bd_309_20
    have u81 := CI_b c63 (k := 309) (j := 36) bd_309_36
    have u82 := CI_b c63 (k := 316) (j := 0) bd_316_0
    have u83 := CI_b c63 (k := 329) (j := 0) bd_329_0
    have u84 := CI_b c63 (k := 329) (j := 1) bd_329_1
    exact T_ret ⟨c63, f65, (by first | exact o69 | exact y_DD.z (by omega) (by omega)), (by omega), o68, o70, (by first | exact o71 | exact y_K.b0 (by omega) | exact y_K.k0 (by omega) | exact y_K.bk (by omega)), ⟨x66, rfl, by omega, by omega⟩⟩
  · exact T_ret ⟨c15, f17, (by first | exact r35 | exact y_DD.z (by omega) (by omega)), (by omega), r36, r37, (by first | exact r38 | exact y_K.b0 (by omega) | exact y_K.k0 (by omega) | exact y_K.bk (by omega)), ⟨0, rfl, by omega, by omega⟩⟩
theorem sf_X12_text_309 {fu : Nat} (hfu : 8589934592 ≤ fu) (r0 : z_M) (c0 : z_CI r0) (a1 : Int) (b1 : -2147483648 ≤ a1 ∧ a1 ≤ 2147483647) (p0 : y_DD r0) (p1 : y_TA r0) (p2 : y_B r0) (p3 : y_K r0) : z_T (fX12_text fu r0 309 a1) (P_X12_text_309 r0 a1) := by
  refine T_of (fX12_text.eq_1 ..) ?_
  have u1 := CI_b c0 (k := 309) (j := 0) bd_309_0
  have u2 := CI_b c0 (k := 309) (j := 2) bd_309_2
  have u3 := CI_b c0 (k := 309) (j := 20) bd_309_20
  have u4 := CI_b c0 (k := 309) (j := 36) bd_309_36
  have u5 := CI_b c0 (k := 309) (j := 43) bd_309_43
  have u6 := CI_b c0 (k := 309) (j := 44) bd_309_44
  have u7 := CI_b c0 (k := 309) (j := 58) bd_309_58
  have u8 := CI_b c0 (k := 316) (j := 0) bd_316_0
  have u9 := CI_b c0 (k := 329) (j := 0) bd_329_0
  have u10 := CI_b c0 (k := 329) (j := 1) bd_329_1
  refine T_if1 (by decide +kernel) ?_
  refine T_upg c0 bd_309_0 (by omega) (fun s11 c12 g14 g15 e16 => ?_)
  have f13 := z_Fr.upf (R := R_X12_text_309) z_Fr.rf g14 g15 (Or.inr (Or.inr (Or.inr (⟨rfl, by decide⟩))))
  have t17 : s11 309 2 = r0 309 2 := g15 2 (by decide)
  have t18 : s11 309 20 = r0 309 20 := g15 20 (by decide)
  have t19 : s11 309 36 = r0 309 36 := g15 36 (by decide)
  have t20 : s11 309 43 = r0 309 43 := g15 43 (by decide)
  have t21 : s11 309 44 = r0 309 44 := g15 44 (by decide)
  have t22 : s11 309 58 = r0 309 58 := g15 58 (by decide)
  have t23 : s11 316 0 = r0 316 0 := g14 316 0 (by decide)
  have t24 : s11 329 0 = r0 329 0 := g14 329 0 (by decide)
  have t25 : s11 329 1 = r0 329 1 := g14 329 1 (by decide)
  have u26 := CI_b c12 (k := 309) (j := 0) bd_309_0
  have r27 := y_DD.fr p0 (g14 329 0 (by decide)) (g14 329 1 (by decide)) (fun b => g14 359 b (by decide)) (fun b => g14 374 b (by decide))
  have r28 := y_TA.fr p1 (fun a b h => g14 a b (by omega)) (fun a b h => g14 a b (by omega)) (fun a b h => g14 a b (by omega))
  have r29 := y_B.fr p2 (g15 20 (by decide)) (g14 316 0 (by decide)) (fun b => g14 3220 b (by decide)) (fun b => g14 3221 b (by decide)) (fun b => g14 3222 b (by decide)) (fun b => g14 361 b (by decide))
  have r30 := y_K.fr p3 (by omega) (by omega) (g15 44 (by decide)) (g15 20 (by decide)) (g15 58 (by decide)) (fun b => g14 3438 b (by decide)) (fun b => g14 3220 b (by decide)) (fun a b h => g14 a b (by omega))
  refine T_if1 (by decide +kernel) ?_
  refine T_leq (fun x31 e32 => ?_)
  have u33 := CI_b c12 (k := 309) (j := 2) bd_309_2
  refine T_useI (sf_X12_in hfu s11 c12 a1 0 x31 (by omega) (by omega) (by omega)) (fun v39 s34 hq => ?_)
  obtain ⟨c35, f36, ⟨x38, rfl, b40, b41, o42⟩⟩ := hq
  refine T_vI ?_
  have q43 := z_Fr.eq (fun a b h => h) f36
  subst q43
  refine T_ite (fun h44 => ?_) (fun h44 => ?_)
  · exact sj_X12_text_309_J23 hfu r0 s11 c12 f13 a1 0 (by omega) (by omega) (by omega) (by omega) (by omega) (by first | exact r27 | exact y_DD.z (by omega) (by omega)) (by omega) r28 r29 (by first | exact r30 | exact y_K.b0 (by omega) | exact y_K.k0 (by omega) | exact y_K.bk (by omega))
  · exact sj_X12_text_309_J23 hfu r0 s11 c12 f13 a1 1 (by omega) (by omega) (by omega) (by omega) (by omega) (by first | exact r27 | exact y_DD.z (by omega) (by omega)) (by omega) r28 r29 (by first | exact r30 | exact y_K.b0 (by omega) | exact y_K.k0 (by omega) | exact y_K.bk (by omega))
abbrev R_X12_more__309 (a b : Int) : Prop := (310 ≤ a ∧ a ≤ 310) ∨ (316 ≤ a ∧ a ≤ 404) ∨ (407 ≤ a ∧ a ≤ 3223) ∨ (a = 309 ∧ (b = 0 ∨ b = 2 ∨ b = 3 ∨ b = 4 ∨ b = 5 ∨ b = 6 ∨ b = 7 ∨ b = 19 ∨ b = 20 ∨ b = 36))
abbrev P_X12_more__309 (r0 : z_M) (a1 : Int) : z_V → z_M → Prop := fun v s' => z_CI s' ∧ z_Fr R_X12_more__309 r0 s' ∧ (y_DD s') ∧ ((0 ≤ a1 ∧ a1 ≤ r0 309 2 ∧ s' 309 2 = 0) ∨ ((a1 < 0 ∨ r0 309 2 < a1) ∧ s' 309 2 = r0 309 2)) ∧ (y_TA s') ∧ (y_B s') ∧ (y_K s') ∧ (∃ x, v = vI x ∧ -2147483648 ≤ x ∧ x ≤ 2147483647)
theorem rs_X12_bad_309__X12_more__309 (a b : Int) (h : R_X12_bad_309 a b) : R_X12_more__309 a b := (h.elim (fun h => (Or.inl (⟨by omega, by omega⟩))) (fun h => (Or.inr (Or.inr (Or.inr (⟨h.1, by omega⟩))))))
theorem rs_X12_copies_309__X12_more__309 (a b : Int) (h : R_X12_copies_309 a b) : R_X12_more__309 a b := (h.elim (fun h => (Or.inr (Or.inl (⟨by omega, by omega⟩)))) (fun h => (Or.inr (Or.inr (Or.inl (⟨by omega, by omega⟩))))))
theorem nr_X12_copies_309__3220 (b : Int) : ¬ R_X12_copies_309 3220 b := by
  unfold R_X12_copies_309; omega
theorem nr_X12_copies_309__3221 (b : Int) : ¬ R_X12_copies_309 3221 b := by
  unfold R_X12_copies_309; omega
theorem nr_X12_copies_309__3222 (b : Int) : ¬ R_X12_copies_309 3222 b := by
  unfold R_X12_copies_309; omega
theorem nr_X12_copies_309__3438 (b : Int) : ¬ R_X12_copies_309 3438 b := by
  unfold R_X12_copies_309; omega
theorem nq_X12_copies_309__3452 (a b : Int) (h : 3452 ≤ a ∧ a ≤ 3651) : ¬ R_X12_copies_309 a b := by
  unfold R_X12_copies_309; omega
theorem rs_X12_reads_309__X12_more__309 (a b : Int) (h : R_X12_reads_309 a b) : R_X12_more__309 a b := (h.elim (fun h => (Or.inr (Or.inl (⟨by omega, by omega⟩)))) (fun h => (h.elim (fun h => (Or.inr (Or.inr (Or.inl (⟨by omega, by omega⟩))))) (fun h => (Or.inr (Or.inr (Or.inr (⟨h.1, by omega⟩))))))))
theorem sj_X12_more__309_J23 {fu : Nat} (hfu : 8589934592 ≤ fu) (r0 s : z_M) (c : z_CI s) (f : z_Fr R_X12_more__309 r0 s) (a1 : Int) (t1 : Int) (b1 : -2147483648 ≤ a1 ∧ a1 ≤ 2147483647) (d1 : 0 ≤ t1 ∧ t1 ≤ 1) (p0 : t1 = 1 ∨ (0 ≤ a1 ∧ a1 ≤ s 309 2)) (p1 : s 309 0 = 0) (p2 : t1 = 0 ∨ a1 < 0 ∨ s 309 2 < a1) (p3 : y_DD s) (p4 : s 309 2 = r0 309 2) (p5 : y_TA s) (p6 : y_B s) (p7 : y_K s) : z_T (fX12_more__J23 fu s 309 a1 309 t1) (P_X12_more__309 r0 a1) := by
  refine T_of (fX12_more__J23.eq_1 ..) ?_
  have u1 := CI_b c (k := 309) (j := 0) bd_309_0
  have u2 := CI_b c (k := 309) (j := 2) bd_309_2
  have u3 := CI_b c (k := 309) (j := 20) bd_309_20
  have u4 := CI_b c (k := 309) (j := 36) bd_309_36
  have u5 := CI_b c (k := 309) (j := 43) bd_309_43
  have u6 := CI_b c (k := 309) (j := 44) bd_309_44
  have u7 := CI_b c (k := 309) (j := 58) bd_309_58
  have u8 := CI_b c (k := 316) (j := 0) bd_316_0
  have u9 := CI_b c (k := 329) (j := 0) bd_329_0
  have u10 := CI_b c (k := 329) (j := 1) bd_329_1
  have t11 : s 309 43 = r0 309 43 := f 309 43 (by decide)
  have t12 : s 309 44 = r0 309 44 := f 309 44 (by decide)
  have t13 : s 309 58 = r0 309 58 := f 309 58 (by decide)
  refine T_if1 (by decide +kernel) ?_
  refine T_useI (sf_X12_bad_309 hfu s c t1 1 1 (by omega) (by omega) (by omega) (by omega)) (fun v19 s14 hq => ?_)
  obtain ⟨c15, f16, o20, ⟨x18, rfl, b21, b22, o23, o24⟩⟩ := hq
  refine T_vI ?_
  have f17 := z_Fr.tr (R := R_X12_more__309) f f16 rs_X12_bad_309__X12_more__309
  have t25 : s14 309 2 = s 309 2 := f16 309 2 (by decide)
  have t26 : s14 309 20 = s 309 20 := f16 309 20 (by decide)
  have t27 : s14 309 36 = s 309 36 := f16 309 36 (by decide)
  have t28 : s14 309 43 = s 309 43 := f16 309 43 (by decide)
  have t29 : s14 309 44 = s 309 44 := f16 309 44 (by decide)
  have t30 : s14 309 58 = s 309 58 := f16 309 58 (by decide)
  have t31 : s14 316 0 = s 316 0 := f16 316 0 (by decide)
  have t32 : s14 329 0 = s 329 0 := f16 329 0 (by decide)
  have t33 : s14 329 1 = s 329 1 := f16 329 1 (by decide)
  have u34 := CI_b c15 (k := 309) (j := 0) bd_309_0
  have r35 := y_DD.fr p3 (f16 329 0 (by decide)) (f16 329 1 (by decide)) (fun b => f16 359 b (nr_X12_bad_309__359 b)) (fun b => f16 374 b (nr_X12_bad_309__374 b))
  have r36 := y_TA.fr p5 (fun a b h => f16 a b (nq_X12_bad_309__316 a b h)) (fun a b h => f16 a b (nq_X12_bad_309__346 a b h)) (fun a b h => f16 a b (nq_X12_bad_309__361 a b h))
  have r37 := y_B.fr p6 (f16 309 20 (by decide)) (f16 316 0 (by decide)) (fun b => f16 3220 b (nr_X12_bad_309__3220 b)) (fun b => f16 3221 b (nr_X12_bad_309__3221 b)) (fun b => f16 3222 b (nr_X12_bad_309__3222 b)) (fun b => f16 361 b (nr_X12_bad_309__361 b))
  have r38 := y_K.fr p7 (by omega) (by omega) (f16 309 44 (by decide)) (f16 309 20 (by decide)) (f16 309 58 (by decide)) (fun b => f16 3438 b (nr_X12_bad_309__3438 b)) (fun b => f16 3220 b (nr_X12_bad_309__3220 b)) (fun a b h => f16 a b (nq_X12_bad_309__3452 a b h))
  refine T_ite (fun h39 => ?_) (fun h39 => ?_)
  · refine T_if1 (by decide +kernel) ?_
    refine T_useN (sf_X12_copies_309 hfu s14 c15 0 13 (by omega) (by omega) (by omega)) (fun v45 s40 hq => ?_)
    obtain ⟨c41, f42, o46, rfl⟩ := hq
    refine T_vN ?_
    have f43 := z_Fr.tr (R := R_X12_more__309) f17 f42 rs_X12_copies_309__X12_more__309
    have t49 : s40 309 0 = s14 309 0 := f42 309 0 (by decide)
    have t50 : s40 309 2 = s 309 2 := (f42 309 2 (by decide)).trans t25
    have t51 : s40 309 20 = s 309 20 := (f42 309 20 (by decide)).trans t26
    have t52 : s40 309 36 = s 309 36 := (f42 309 36 (by decide)).trans t27
    have t53 : s40 309 43 = s 309 43 := (f42 309 43 (by decide)).trans t28
    have t54 : s40 309 44 = s 309 44 := (f42 309 44 (by decide)).trans t29
    have t55 : s40 309 58 = s 309 58 := (f42 309 58 (by decide)).trans t30
    have u56 := CI_b c41 (k := 316) (j := 0) bd_316_0
    have u57 := CI_b c41 (k := 329) (j := 0) bd_329_0
    have u58 := CI_b c41 (k := 329) (j := 1) bd_329_1
    have r59 := y_K.fr r38 (by omega) (by omega) (f42 309 44 (by decide)) (f42 309 20 (by decide)) (f42 309 58 (by decide)) (fun b => f42 3438 b (nr_X12_copies_309__3438 b)) (fun b => f42 3220 b (nr_X12_copies_309__3220 b)) (fun a b h => f42 a b (nq_X12_copies_309__3452 a b h))
    have r60 := y_CP.TA o46 c15 (by omega) r36
    have r61 := y_CP.DD o46 c15 (by omega) r36
    have r62 := y_CP.B o46 (by omega) r37 (f42 309 20 (by unfold R_X12_copies_309; omega)) (fun b => f42 3220 b (by unfold R_X12_copies_309; omega)) (fun b => f42 3221 b (by unfold R_X12_copies_309; omega)) (fun b => f42 3222 b (by unfold R_X12_copies_309; omega))
    clear t25
    clear t26
    clear t27
    clear t28
    clear t29
    clear t30
    refine T_if1 (by decide +kernel) ?_
    refine T_useI (sf_X12_reads_309 hfu s40 c41 a1 (by omega) r60 (by first | exact r61 | exact y_DD.z (by omega) (by omega)) r62 (by first | exact r59 | exact y_K.b0 (by omega) | exact y_K.k0 (by omega) | exact y_K.bk (by omega))) (fun v68 s63 hq => ?_)
    obtain ⟨c64, f65, o69, o70, o71, o72, o73, ⟨x67, rfl, b74, b75⟩⟩ := hq
    refine T_vI ?_
    have f66 := z_Fr.tr (R := R_X12_more__309) f43 f65 rs_X12_reads_309__X12_more__309
    have t76 : s63 309 0 = s14 309 0 := (f65 309 0 (by decide)).trans t49
    have t77 : s63 309 43 = s 309 43 := (f65 309 43 (by decide)).trans t53
    have t78 : s63 309 44 = s 309 44 := (f65 309 44 (by decide)).trans t54
    have t79 : s63 309 58 = s 309 58 := (f65 309 58 (by decide)).trans t55
    have u80 := CI_b c64 (k := 309) (j := 2) bd_309_2
    have u81 := CI_b c64 (k := 309) (j := 20) bd_309_20
    have u82 := CI_b c64 (k := 309) (j := 36) bd_309_36
    have u83 := CI_b c64 (k := 316) (j := 0) bd_316_0
    have u84 := CI_b c64 (k := 329) (j := 0) bd_329_0
    have u85 := CI_b c64 (k := 329) (j := 1) bd_329_1
    clear t49
    clear t53
    clear t54
    clear t55
    exact T_ret ⟨c64, f66, (by first | exact o70 | exact y_DD.z (by omega) (by omega)), (by omega), o69, o71, (by first | exact o72 | exact y_K.b0 (by omega) | exact y_K.k0 (by omega) | exact y_K.bk (by omega)), ⟨x67, rfl, by omega, by omega⟩⟩
  · exact T_ret ⟨c15, f17, (by first | exact r35 | exact y_DD.z (by omega) (by omega)), (by omega), r36, r37, (by first | exact r38 | exact y_K.b0 (by omega) | exact y_K.k0 (by omega) | exact y_K.bk (by omega)), ⟨0, rfl, by omega, by omega⟩⟩
theorem sf_X12_more__309 {fu : Nat} (hfu : 8589934592 ≤ fu) (r0 : z_M) (c0 : z_CI r0) (a1 : Int) (b1 : -2147483648 ≤ a1 ∧ a1 ≤ 2147483647) (p0 : y_DD r0) (p1 : y_TA r0) (p2 : y_B r0) (p3 : y_K r0) : z_T (fX12_more_ fu r0 309 a1) (P_X12_more__309 r0 a1) := by
  refine T_of (fX12_more_.eq_1 ..) ?_
  have u1 := CI_b c0 (k := 309) (j := 0) bd_309_0
  have u2 := CI_b c0 (k := 309) (j := 2) bd_309_2
  have u3 := CI_b c0 (k := 309) (j := 20) bd_309_20
  have u4 := CI_b c0 (k := 309) (j := 36) bd_309_36
  have u5 := CI_b c0 (k := 309) (j := 43) bd_309_43
  have u6 := CI_b c0 (k := 309) (j := 44) bd_309_44
  have u7 := CI_b c0 (k := 309) (j := 58) bd_309_58
  have u8 := CI_b c0 (k := 316) (j := 0) bd_316_0
  have u9 := CI_b c0 (k := 329) (j := 0) bd_329_0
  have u10 := CI_b c0 (k := 329) (j := 1) bd_329_1
  refine T_if1 (by decide +kernel) ?_
  refine T_upg c0 bd_309_0 (by omega) (fun s11 c12 g14 g15 e16 => ?_)
  have f13 := z_Fr.upf (R := R_X12_more__309) z_Fr.rf g14 g15 (Or.inr (Or.inr (Or.inr (⟨rfl, by decide⟩))))
  have t17 : s11 309 2 = r0 309 2 := g15 2 (by decide)
  have t18 : s11 309 20 = r0 309 20 := g15 20 (by decide)
  have t19 : s11 309 36 = r0 309 36 := g15 36 (by decide)
  have t20 : s11 309 43 = r0 309 43 := g15 43 (by decide)
  have t21 : s11 309 44 = r0 309 44 := g15 44 (by decide)
  have t22 : s11 309 58 = r0 309 58 := g15 58 (by decide)
  have t23 : s11 316 0 = r0 316 0 := g14 316 0 (by decide)
  have t24 : s11 329 0 = r0 329 0 := g14 329 0 (by decide)
  have t25 : s11 329 1 = r0 329 1 := g14 329 1 (by decide)
  have u26 := CI_b c12 (k := 309) (j := 0) bd_309_0
  have r27 := y_DD.fr p0 (g14 329 0 (by decide)) (g14 329 1 (by decide)) (fun b => g14 359 b (by decide)) (fun b => g14 374 b (by decide))
  have r28 := y_TA.fr p1 (fun a b h => g14 a b (by omega)) (fun a b h => g14 a b (by omega)) (fun a b h => g14 a b (by omega))
  have r29 := y_B.fr p2 (g15 20 (by decide)) (g14 316 0 (by decide)) (fun b => g14 3220 b (by decide)) (fun b => g14 3221 b (by decide)) (fun b => g14 3222 b (by decide)) (fun b => g14 361 b (by decide))
  have r30 := y_K.fr p3 (by omega) (by omega) (g15 44 (by decide)) (g15 20 (by decide)) (g15 58 (by decide)) (fun b => g14 3438 b (by decide)) (fun b => g14 3220 b (by decide)) (fun a b h => g14 a b (by omega))
  refine T_if1 (by decide +kernel) ?_
  refine T_leq (fun x31 e32 => ?_)
  have u33 := CI_b c12 (k := 309) (j := 2) bd_309_2
  refine T_useI (sf_X12_in hfu s11 c12 a1 0 x31 (by omega) (by omega) (by omega)) (fun v39 s34 hq => ?_)
  obtain ⟨c35, f36, ⟨x38, rfl, b40, b41, o42⟩⟩ := hq
  refine T_vI ?_
  have q43 := z_Fr.eq (fun a b h => h) f36
  subst q43
  refine T_ite (fun h44 => ?_) (fun h44 => ?_)
  · exact sj_X12_more__309_J23 hfu r0 s11 c12 f13 a1 0 (by omega) (by omega) (by omega) (by omega) (by omega) (by first | exact r27 | exact y_DD.z (by omega) (by omega)) (by omega) r28 r29 (by first | exact r30 | exact y_K.b0 (by omega) | exact y_K.k0 (by omega) | exact y_K.bk (by omega))
  · exact sj_X12_more__309_J23 hfu r0 s11 c12 f13 a1 1 (by omega) (by omega) (by omega) (by omega) (by omega) (by first | exact r27 | exact y_DD.z (by omega) (by omega)) (by omega) r28 r29 (by first | exact r30 | exact y_K.b0 (by omega) | exact y_K.k0 (by omega) | exact y_K.bk (by omega))
abbrev R_X12_undo_309 (a b : Int) : Prop := (316 ≤ a ∧ a ≤ 404) ∨ (407 ≤ a ∧ a ≤ 3223) ∨ (a = 309 ∧ (b = 0 ∨ b = 19 ∨ b = 20 ∨ b = 36))
abbrev P_X12_undo_309 (r0 : z_M) : z_V → z_M → Prop := fun v s' => z_CI s' ∧ z_Fr R_X12_undo_309 r0 s' ∧ (y_TA s') ∧ (y_DD s') ∧ (y_B s') ∧ (y_K s') ∧ (∃ x, v = vI x ∧ -2147483648 ≤ x ∧ x ≤ 2147483647)
theorem rs_X12_copies_309__X12_undo_309 (a b : Int) (h : R_X12_copies_309 a b) : R_X12_undo_309 a b := (h.elim (fun h => (Or.inl (⟨by omega, by omega⟩))) (fun h => (Or.inr (Or.inl (⟨by omega, by omega⟩)))))
theorem rs_X12_laysUnits_309__X12_undo_309 (a b : Int) (h : R_X12_laysUnits_309 a b) : R_X12_undo_309 a b := (h.elim (fun h => (Or.inr (Or.inl (⟨by omega, by omega⟩)))) (fun h => (Or.inr (Or.inr (⟨h.1, by omega⟩)))))
theorem sf_X12_undo_309 {fu : Nat} (hfu : 8589934592 ≤ fu) (r0 : z_M) (c0 : z_CI r0) (p0 : y_TA r0) (p1 : y_DD r0) (p2 : y_B r0) (p3 : y_K r0) : z_T (fX12_undo fu r0 309) (P_X12_undo_309 r0) := by
  refine T_of (fX12_undo.eq_1 ..) ?_
  have u1 := CI_b c0 (k := 309) (j := 19) bd_309_19
  have u2 := CI_b c0 (k := 309) (j := 20) bd_309_20
  have u3 := CI_b c0 (k := 309) (j := 36) bd_309_36
  have u4 := CI_b c0 (k := 309) (j := 43) bd_309_43
  have u5 := CI_b c0 (k := 309) (j := 44) bd_309_44
  have u6 := CI_b c0 (k := 309) (j := 58) bd_309_58
  have u7 := CI_b c0 (k := 316) (j := 0) bd_316_0
  have u8 := CI_b c0 (k := 329) (j := 0) bd_329_0
  have u9 := CI_b c0 (k := 329) (j := 1) bd_329_1
  refine T_if1 (by decide +kernel) ?_
  refine T_upg c0 bd_309_0 (by omega) (fun s10 c11 g13 g14 e15 => ?_)
  have f12 := z_Fr.upf (R := R_X12_undo_309) z_Fr.rf g13 g14 (Or.inr (Or.inr (⟨rfl, by decide⟩)))
  have t16 : s10 309 19 = r0 309 19 := g14 19 (by decide)
  have t17 : s10 309 20 = r0 309 20 := g14 20 (by decide)
  have t18 : s10 309 36 = r0 309 36 := g14 36 (by decide)
  have t19 : s10 309 43 = r0 309 43 := g14 43 (by decide)
  have t20 : s10 309 44 = r0 309 44 := g14 44 (by decide)
  have t21 : s10 309 58 = r0 309 58 := g14 58 (by decide)
  have t22 : s10 316 0 = r0 316 0 := g13 316 0 (by decide)
  have t23 : s10 329 0 = r0 329 0 := g13 329 0 (by decide)
  have t24 : s10 329 1 = r0 329 1 := g13 329 1 (by decide)
  have r25 := y_TA.fr p0 (fun a b h => g13 a b (by omega)) (fun a b h => g13 a b (by omega)) (fun a b h => g13 a b (by omega))
  have r26 := y_DD.fr p1 (g13 329 0 (by decide)) (g13 329 1 (by decide)) (fun b => g13 359 b (by decide)) (fun b => g13 374 b (by decide))
  have r27 := y_B.fr p2 (g14 20 (by decide)) (g13 316 0 (by decide)) (fun b => g13 3220 b (by decide)) (fun b => g13 3221 b (by decide)) (fun b => g13 3222 b (by decide)) (fun b => g13 361 b (by decide))
  have r28 := y_K.fr p3 (by omega) (by omega) (g14 44 (by decide)) (g14 20 (by decide)) (g14 58 (by decide)) (fun b => g13 3438 b (by decide)) (fun b => g13 3220 b (by decide)) (fun a b h => g13 a b (by omega))
  refine T_if1 (by decide +kernel) ?_
  refine T_leq (fun x29 e30 => ?_)
  have u31 := CI_b c11 (k := 309) (j := 19) bd_309_19
  refine T_ite (fun h32 => ?_) (fun h32 => ?_)
  · refine T_if1 (by decide +kernel) ?_
    refine T_leq (fun x33 e34 => ?_)
    have q35 : x29 = x33 := e30.symm.trans e34
    subst q35
    refine T_if1 (by decide +kernel) ?_
    refine T_useN (sf_X12_copies_309 hfu s10 c11 x29 0 (by omega) (by omega) (by omega)) (fun v41 s36 hq => ?_)
    obtain ⟨c37, f38, o42, rfl⟩ := hq
    refine T_vN ?_
    have f39 := z_Fr.tr (R := R_X12_undo_309) f12 f38 rs_X12_copies_309__X12_undo_309
    have t45 : s36 309 19 = x29 := (f38 309 19 (by decide)).trans e30
    have t46 : s36 309 20 = r0 309 20 := (f38 309 20 (by decide)).trans t17
    have t47 : s36 309 36 = r0 309 36 := (f38 309 36 (by decide)).trans t18
    have t48 : s36 309 43 = r0 309 43 := (f38 309 43 (by decide)).trans t19
    have t49 : s36 309 44 = r0 309 44 := (f38 309 44 (by decide)).trans t20
    have t50 : s36 309 58 = r0 309 58 := (f38 309 58 (by decide)).trans t21
    have u51 := CI_b c37 (k := 316) (j := 0) bd_316_0
    have u52 := CI_b c37 (k := 329) (j := 0) bd_329_0
    have u53 := CI_b c37 (k := 329) (j := 1) bd_329_1
    have r54 := y_K.fr r28 (by omega) (by omega) (f38 309 44 (by decide)) (f38 309 20 (by decide)) (f38 309 58 (by decide)) (fun b => f38 3438 b (nr_X12_copies_309__3438 b)) (fun b => f38 3220 b (nr_X12_copies_309__3220 b)) (fun a b h => f38 a b (nq_X12_copies_309__3452 a b h))
    have r55 := y_CP.TA o42 c11 (by omega) r25
    have r56 := y_CP.DDk o42 (by omega) r26
    clear t17
    clear t18
    clear t19
    clear t20
    clear t21
    refine T_if1 (by decide +kernel) ?_
    refine T_leq (fun x57 e58 => ?_)
    have q59 : x29 = x57 := t45.symm.trans e58
    subst q59
    refine T_leq (fun x60 e61 => ?_)
    first | (have w62 := z_wx e61 (by omega)) | (have w62 := z_wr e61)
    refine T_if1 (by decide +kernel) ?_
    refine T_upg c37 bd_309_19 (by omega) (fun s63 c64 g66 g67 e68 => ?_)
    have f65 := z_Fr.upf (R := R_X12_undo_309) f39 g66 g67 (Or.inr (Or.inr (⟨rfl, by decide⟩)))
    have t69 : s63 309 20 = r0 309 20 := (g67 20 (by decide)).trans t46
    have t70 : s63 309 36 = r0 309 36 := (g67 36 (by decide)).trans t47
    have t71 : s63 309 43 = r0 309 43 := (g67 43 (by decide)).trans t48
    have t72 : s63 309 44 = r0 309 44 := (g67 44 (by decide)).trans t49
    have t73 : s63 309 58 = r0 309 58 := (g67 58 (by decide)).trans t50
    have t74 : s63 316 0 = s36 316 0 := g66 316 0 (by decide)
    have t75 : s63 329 0 = s36 329 0 := g66 329 0 (by decide)
    have t76 : s63 329 1 = s36 329 1 := g66 329 1 (by decide)
    have u77 := CI_b c64 (k := 309) (j := 19) bd_309_19
    have r78 := y_K.fr r54 (by omega) (by omega) (g67 44 (by decide)) (g67 20 (by decide)) (g67 58 (by decide)) (fun b => g66 3438 b (by decide)) (fun b => g66 3220 b (by decide)) (fun a b h => g66 a b (by omega))
    have r79 := y_TA.fr r55 (fun a b h => g66 a b (by omega)) (fun a b h => g66 a b (by omega)) (fun a b h => g66 a b (by omega))
    have r80 := y_DD.fr r56 (g66 329 0 (by decide)) (g66 329 1 (by decide)) (fun b => g66 359 b (by decide)) (fun b => g66 374 b (by decide))
    clear t46
    clear t47
    clear t48
    clear t49
    clear t50
    refine T_if1 (by decide +kernel) ?_
    refine T_useN (sf_X12_laysUnits_309 hfu s63 c64 r79) (fun v86 s81 hq => ?_)
    obtain ⟨c82, f83, o87, o88, rfl⟩ := hq
    refine T_vN ?_
    have f84 := z_Fr.tr (R := R_X12_undo_309) f65 f83 rs_X12_laysUnits_309__X12_undo_309
    have t91 : s81 309 19 = s63 309 19 := f83 309 19 (by decide)
    have t92 : s81 309 43 = r0 309 43 := (f83 309 43 (by decide)).trans t71
    have t93 : s81 309 44 = r0 309 44 := (f83 309 44 (by decide)).trans t72
    have t94 : s81 309 58 = r0 309 58 := (f83 309 58 (by decide)).trans t73
    have t95 : s81 316 0 = s36 316 0 := (f83 316 0 (by decide)).trans t74
    have t96 : s81 329 0 = s36 329 0 := (f83 329 0 (by decide)).trans t75
    have t97 : s81 329 1 = s36 329 1 := (f83 329 1 (by decide)).trans t76
    have u98 := CI_b c82 (k := 309) (j := 20) bd_309_20
    have u99 := CI_b c82 (k := 309) (j := 36) bd_309_36
    have r100 := y_TA.fr r79 (fun a b h => f83 a b (nq_X12_laysUnits_309__316 a b h)) (fun a b h => f83 a b (nq_X12_laysUnits_309__346 a b h)) (fun a b h => f83 a b (nq_X12_laysUnits_309__361 a b h))
    have r101 := y_DD.fr r80 (f83 329 0 (by decide)) (f83 329 1 (by decide)) (fun b => f83 359 b (nr_X12_laysUnits_309__359 b)) (fun b => f83 374 b (nr_X12_laysUnits_309__374 b))
    clear t71
    clear t72
    clear t73
    clear t74
    clear t75
    clear t76
    refine T_if1 (by decide +kernel) ?_
    refine T_leq (fun x102 e103 => ?_)
    have u104 := CI_b c82 (k := 309) (j := 20) bd_309_20
    exact T_ret ⟨c82, f84, r100, (by first | exact r101 | exact y_DD.z (by omega) (by omega)), o87, (by first | exact y_K.b0 (by omega) | exact y_K.k0 (by omega) | exact y_K.bk (by omega)), ⟨x102, rfl, by omega, by omega⟩⟩
  · exact T_ret ⟨c11, f12, r25, (by first | exact r26 | exact y_DD.z (by omega) (by omega)), r27, (by first | exact r28 | exact y_K.b0 (by omega) | exact y_K.k0 (by omega) | exact y_K.bk (by omega)), ⟨(-1), rfl, by omega, by omega⟩⟩
abbrev R_X12_isUnit_309 (a b : Int) : Prop := False
abbrev P_X12_isUnit_309 (r0 : z_M) (a1 : Int) : z_V → z_M → Prop := fun v s' => z_CI s' ∧ z_Fr R_X12_isUnit_309 r0 s' ∧ (∃ x, v = vI x ∧ 0 ≤ x ∧ x ≤ 1 ∧ ((x = 1 ∧ 0 ≤ a1 ∧ a1 < r0 309 20) ∨ x = 0))
theorem sf_X12_isUnit_309 {fu : Nat} (hfu : 8589934592 ≤ fu) (r0 : z_M) (c0 : z_CI r0) (a1 : Int) (b1 : -2147483648 ≤ a1 ∧ a1 ≤ 2147483647) : z_T (fX12_isUnit fu r0 309 a1) (P_X12_isUnit_309 r0 a1) := by
  refine T_of (fX12_isUnit.eq_1 ..) ?_
  have u1 := CI_b c0 (k := 309) (j := 20) bd_309_20
  refine T_if1 (by decide +kernel) ?_
  refine T_leq (fun x2 e3 => ?_)
  have u4 := CI_b c0 (k := 309) (j := 20) bd_309_20
  refine T_leq (fun x5 e6 => ?_)
  first | (have w7 := z_wx e6 (by omega)) | (have w7 := z_wr e6)
  refine T_useI (sf_X12_in hfu r0 c0 a1 0 x5 (by omega) (by omega) (by omega)) (fun v13 s8 hq => ?_)
  obtain ⟨c9, f10, ⟨x12, rfl, b14, b15, o16⟩⟩ := hq
  refine T_vI ?_
  have q17 := z_Fr.eq (fun a b h => h) f10
  subst q17
  refine T_if1 (by unfold z_bl; omega) ?_
  exact T_ret ⟨c0, z_Fr.rf, ⟨x12, rfl, by omega, by omega, (by omega)⟩⟩
abbrev R_X12_cut_309 (a b : Int) : Prop := (310 ≤ a ∧ a ≤ 310) ∨ (316 ≤ a ∧ a ≤ 404) ∨ (407 ≤ a ∧ a ≤ 3223) ∨ (7657 ≤ a ∧ a ≤ 7657) ∨ (a = 309 ∧ (b = 0 ∨ b = 19 ∨ b = 20 ∨ b = 36))
abbrev P_X12_cut_309 (r0 : z_M) : z_V → z_M → Prop := fun v s' => z_CI s' ∧ z_Fr R_X12_cut_309 r0 s' ∧ (y_TA s') ∧ (y_DD s') ∧ (y_B s') ∧ (y_K s') ∧ (∃ x, v = vI x ∧ -2147483648 ≤ x ∧ x ≤ 2147483647)
theorem rs_X12_bad_309__X12_cut_309 (a b : Int) (h : R_X12_bad_309 a b) : R_X12_cut_309 a b := (h.elim (fun h => (Or.inl (⟨by omega, by omega⟩))) (fun h => (Or.inr (Or.inr (Or.inr (Or.inr (⟨h.1, by omega⟩)))))))
theorem sj_X12_cut_309_J54 {fu : Nat} (hfu : 8589934592 ≤ fu) (r0 s : z_M) (c : z_CI s) (f : z_Fr R_X12_cut_309 r0 s) (p0 : y_TA s) (p1 : y_DD s) (p2 : y_B s) (p3 : y_K s) : z_T (fX12_cut_J54 fu s) (P_X12_cut_309 r0) := by
  refine T_of (fX12_cut_J54.eq_1 ..) ?_
  have u1 := CI_b c (k := 309) (j := 20) bd_309_20
  have u2 := CI_b c (k := 309) (j := 36) bd_309_36
  have u3 := CI_b c (k := 309) (j := 43) bd_309_43
  have u4 := CI_b c (k := 309) (j := 44) bd_309_44
  have u5 := CI_b c (k := 309) (j := 58) bd_309_58
  have u6 := CI_b c (k := 316) (j := 0) bd_316_0
  have u7 := CI_b c (k := 329) (j := 0) bd_329_0
  have u8 := CI_b c (k := 329) (j := 1) bd_329_1
  have t9 : s 309 43 = r0 309 43 := f 309 43 (by decide)
  have t10 : s 309 44 = r0 309 44 := f 309 44 (by decide)
  have t11 : s 309 58 = r0 309 58 := f 309 58 (by decide)
  exact T_ret ⟨c, f, p0, (by first | exact p1 | exact y_DD.z (by omega) (by omega)), p2, (by first | exact p3 | exact y_K.b0 (by omega) | exact y_K.k0 (by omega) | exact y_K.bk (by omega)), ⟨0, rfl, by omega, by omega⟩⟩
theorem rs_X12_copies_309__X12_cut_309 (a b : Int) (h : R_X12_copies_309 a b) : R_X12_cut_309 a b := (h.elim (fun h => (Or.inr (Or.inl (⟨by omega, by omega⟩)))) (fun h => (Or.inr (Or.inr (Or.inl (⟨by omega, by omega⟩))))))
theorem sl_X12_cut_309_L100 {fu : Nat} (hfu : 8589934592 ≤ fu) (r0 : z_M) (a3 : Int) (a4 : Int) (a5 : Int) (a6 : Int) (a7 : Int) (a8 : Int) (b3 : -2147483648 ≤ a3 ∧ a3 ≤ 2147483647) (b4 : -2147483648 ≤ a4 ∧ a4 ≤ 2147483647) (b5 : -2147483648 ≤ a5 ∧ a5 ≤ 2147483647) (b6 : -2147483648 ≤ a6 ∧ a6 ≤ 2147483647) (b7 : -2147483648 ≤ a7 ∧ a7 ≤ 2147483647) (b8 : -2147483648 ≤ a8 ∧ a8 ≤ 2147483647) {k : z_M → z_O} (hk : ∀ (s' : z_M), z_CI s' → z_Fr R_X12_cut_309 r0 s' → (y_TA s') → (y_K s') → z_T (k s') (P_X12_cut_309 r0)) : ∀ (F : Nat) (s : z_M) (a9 : Int), z_CI s → z_Fr R_X12_cut_309 r0 s → (0 ≤ a9 ∧ a9 ≤ 200) → (y_TA s) → (y_K s) → (2147483647 - a9 < (F : Int)) → z_T (fX12_cut_L100 fu 309 a3 a4 a5 a6 a7 a8 F s a9 k) (P_X12_cut_309 r0) := by
  intro F
  induction F with
  | zero =>
    intro s a9 c f b9 i0 i1 hm
    have u32 := CI_b c (k := 309) (j := 20) bd_309_20
    have u33 := CI_b c (k := 309) (j := 36) bd_309_36
    have u34 := CI_b c (k := 309) (j := 43) bd_309_43
    have u35 := CI_b c (k := 309) (j := 44) bd_309_44
    have u36 := CI_b c (k := 309) (j := 58) bd_309_58
    have u37 := CI_b c (k := 316) (j := 0) bd_316_0
    have u38 := CI_b c (k := 329) (j := 0) bd_329_0
    have u39 := CI_b c (k := 329) (j := 1) bd_329_1
    exfalso; omega
  | succ F ih =>
    intro s a9 c f b9 i0 i1 hm
    refine T_of (fX12_cut_L100.eq_2 ..) ?_
    have u1 := CI_b c (k := 309) (j := 20) bd_309_20
    have u2 := CI_b c (k := 309) (j := 36) bd_309_36
    have u3 := CI_b c (k := 309) (j := 43) bd_309_43
    have u4 := CI_b c (k := 309) (j := 44) bd_309_44
    have u5 := CI_b c (k := 309) (j := 58) bd_309_58
    have u6 := CI_b c (k := 316) (j := 0) bd_316_0
    have u7 := CI_b c (k := 329) (j := 0) bd_329_0
    have u8 := CI_b c (k := 329) (j := 1) bd_329_1
    have t9 : s 309 43 = r0 309 43 := f 309 43 (by decide)
    have t10 : s 309 44 = r0 309 44 := f 309 44 (by decide)
    have t11 : s 309 58 = r0 309 58 := f 309 58 (by decide)
    refine T_ite (fun h12 => ?_) (fun h12 => ?_)
    · exact hk s c f i0 (by first | exact i1 | exact y_K.b0 (by omega) | exact y_K.k0 (by omega) | exact y_K.bk (by omega))
    · refine T_if1 (by decide +kernel) ?_
      refine T_let 7657 (by decide +kernel) ?_
      refine T_if1 (z_ixl (n := 200) (by decide +kernel) (by omega) (by omega)) ?_
      refine T_upg c (bdr_7657 a9) (by omega) (fun s13 c14 g16 g17 e18 => ?_)
      have f15 := z_Fr.up (R := R_X12_cut_309) f g16 (fun _ => (Or.inr (Or.inr (Or.inr (Or.inl (⟨by decide, by decide⟩))))))
      have t19 : s13 309 20 = s 309 20 := g16 309 20 (by decide)
      have t20 : s13 309 36 = s 309 36 := g16 309 36 (by decide)
      have t21 : s13 309 43 = s 309 43 := g16 309 43 (by decide)
      have t22 : s13 309 44 = s 309 44 := g16 309 44 (by decide)
      have t23 : s13 309 58 = s 309 58 := g16 309 58 (by decide)
      have t24 : s13 316 0 = s 316 0 := g16 316 0 (by decide)
      have t25 : s13 329 0 = s 329 0 := g16 329 0 (by decide)
      have t26 : s13 329 1 = s 329 1 := g16 329 1 (by decide)
      have r27 := y_TA.fr i0 (fun a b h => g16 a b (by omega)) (fun a b h => g16 a b (by omega)) (fun a b h => g16 a b (by omega))
      have r28 := y_K.fr i1 (by omega) (by omega) (g16 309 44 (by decide)) (g16 309 20 (by decide)) (g16 309 58 (by decide)) (fun b => g16 3438 b (by decide)) (fun b => g16 3220 b (by decide)) (fun a b h => g16 a b (by omega))
      refine T_leq (fun x29 e30 => ?_)
      first | (have w31 := z_wx e30 (by omega)) | (have w31 := z_wr e30)
      exact ih s13 x29 c14 f15 (by omega) r27 (by first | exact r28 | exact y_K.b0 (by omega) | exact y_K.k0 (by omega) | exact y_K.bk (by omega)) (by omega)
theorem sj_X12_cut_309_J369 {fu : Nat} (hfu : 8589934592 ≤ fu) (r0 s : z_M) (c : z_CI s) (f : z_Fr R_X12_cut_309 r0 s) (a3 : Int) (a4 : Int) (a5 : Int) (a6 : Int) (a7 : Int) (a8 : Int) (a9 : Int) (b3 : -2147483648 ≤ a3 ∧ a3 ≤ 2147483647) (b4 : -2147483648 ≤ a4 ∧ a4 ≤ 2147483647) (b5 : 0 ≤ a5 ∧ a5 ≤ 200) (b6 : 0 ≤ a6 ∧ a6 ≤ 200) (b7 : (-1) ≤ a7 ∧ a7 ≤ 199) (b8 : -2147483648 ≤ a8 ∧ a8 ≤ 2147483647) (b9 : 0 ≤ a9 ∧ a9 ≤ 199) (p0 : a6 ≤ a5) (p1 : a5 ≤ a9 + 1) (p2 : (a6 = 0 ∧ a7 = -1 ∧ a8 = -1) ∨ (0 ≤ a7 ∧ a7 ≤ a6 - 1)) (p3 : y_D s a5) (p4 : y_TA s) (p5 : y_K s) (p6 : a9 < s 316 0) (M : Int) (pm : 2147483647 - a9 ≤ M) {r : z_M → Int → Int → Int → Int → Int → z_O} {k : z_M → Int → Int → z_O} (hr : ∀ (s' : z_M) (v5 : Int) (v6 : Int) (v7 : Int) (v8 : Int) (v9 : Int), z_CI s' → z_Fr R_X12_cut_309 r0 s' → (0 ≤ v5 ∧ v5 ≤ 200) → (0 ≤ v6 ∧ v6 ≤ 200) → ((-1) ≤ v7 ∧ v7 ≤ 199) → (-2147483648 ≤ v8 ∧ v8 ≤ 2147483647) → (0 ≤ v9 ∧ v9 ≤ 200) → (v6 ≤ v5) → (v5 ≤ v9) → ((v6 = 0 ∧ v7 = -1 ∧ v8 = -1) ∨ (0 ≤ v7 ∧ v7 ≤ v6 - 1)) → (y_D s' v5) → (y_TA s') → (y_K s') → (v9 ≤ s' 316 0) → (2147483647 - v9 < M) → z_T (r s' v5 v6 v7 v8 v9) (P_X12_cut_309 r0)) (hk : ∀ (s' : z_M) (v5 : Int) (v6 : Int), z_CI s' → z_Fr R_X12_cut_309 r0 s' → (0 ≤ v5 ∧ v5 ≤ 200) → (0 ≤ v6 ∧ v6 ≤ 200) → (v6 ≤ v5) → (y_D s' v5) → (y_TA s') → (y_K s') → z_T (k s' v5 v6) (P_X12_cut_309 r0)) : z_T (fX12_cut_J369 fu s 309 a3 a4 a5 a6 a7 a8 a9 r k) (P_X12_cut_309 r0) := by
  refine T_of (fX12_cut_J369.eq_1 ..) ?_
  have u1 := CI_b c (k := 309) (j := 20) bd_309_20
  have u2 := CI_b c (k := 309) (j := 36) bd_309_36
  have u3 := CI_b c (k := 309) (j := 43) bd_309_43
  have u4 := CI_b c (k := 309) (j := 44) bd_309_44
  have u5 := CI_b c (k := 309) (j := 58) bd_309_58
  have u6 := CI_b c (k := 316) (j := 0) bd_316_0
  have u7 := CI_b c (k := 329) (j := 0) bd_329_0
  have u8 := CI_b c (k := 329) (j := 1) bd_329_1
  have t9 : s 309 43 = r0 309 43 := f 309 43 (by decide)
  have t10 : s 309 44 = r0 309 44 := f 309 44 (by decide)
  have t11 : s 309 58 = r0 309 58 := f 309 58 (by decide)
  refine T_leq (fun x12 e13 => ?_)
  first | (have w14 := z_wx e13 (by omega)) | (have w14 := z_wr e13)
  exact hr s a5 a6 a7 a8 x12 c f (by omega) (by omega) (by omega) (by omega) (by omega) (by omega) (by omega) (by omega) (by first | exact y_D.cg p3 (by omega) | exact y_D.z (by omega) | exact y_D.ex p3 (by omega) (by omega)) p4 (by first | exact p5 | exact y_K.b0 (by omega) | exact y_K.k0 (by omega) | exact y_K.bk (by omega)) (by omega) (by omega)
theorem sj_X12_cut_309_J346 {fu : Nat} (hfu : 8589934592 ≤ fu) (r0 s : z_M) (c : z_CI s) (f : z_Fr R_X12_cut_309 r0 s) (a3 : Int) (a4 : Int) (a5 : Int) (a6 : Int) (a7 : Int) (a8 : Int) (a9 : Int) (t1 : Int) (t2 : Int) (b3 : -2147483648 ≤ a3 ∧ a3 ≤ 2147483647) (b4 : -2147483648 ≤ a4 ∧ a4 ≤ 2147483647) (b5 : 0 ≤ a5 ∧ a5 ≤ 199) (b6 : 0 ≤ a6 ∧ a6 ≤ 200) (b7 : (-1) ≤ a7 ∧ a7 ≤ 199) (b8 : -2147483648 ≤ a8 ∧ a8 ≤ 2147483647) (b9 : 0 ≤ a9 ∧ a9 ≤ 199) (d1 : 0 ≤ t1 ∧ t1 ≤ 199) (d2 : (-1) ≤ t2 ∧ t2 ≤ 199) (p0 : a6 ≤ a5 + 1) (p1 : a5 ≤ a9) (p2 : (a6 = 0 ∧ a7 = -1 ∧ a8 = -1) ∨ (0 ≤ a7 ∧ a7 ≤ a6 - 1)) (p3 : y_TA s) (p4 : y_K s) (p5 : a9 < s 316 0) (p6 : y_D s a5) (p7 : t1 = a5) (p8 : s 359 t1 ≠ 7 ∨ 0 ≤ t2) (M : Int) (pm : 2147483647 - a9 ≤ M) {r : z_M → Int → Int → Int → Int → Int → z_O} {k : z_M → Int → Int → z_O} (hr : ∀ (s' : z_M) (v5 : Int) (v6 : Int) (v7 : Int) (v8 : Int) (v9 : Int), z_CI s' → z_Fr R_X12_cut_309 r0 s' → (0 ≤ v5 ∧ v5 ≤ 200) → (0 ≤ v6 ∧ v6 ≤ 200) → ((-1) ≤ v7 ∧ v7 ≤ 199) → (-2147483648 ≤ v8 ∧ v8 ≤ 2147483647) → (0 ≤ v9 ∧ v9 ≤ 200) → (v6 ≤ v5) → (v5 ≤ v9) → ((v6 = 0 ∧ v7 = -1 ∧ v8 = -1) ∨ (0 ≤ v7 ∧ v7 ≤ v6 - 1)) → (y_D s' v5) → (y_TA s') → (y_K s') → (v9 ≤ s' 316 0) → (2147483647 - v9 < M) → z_T (r s' v5 v6 v7 v8 v9) (P_X12_cut_309 r0)) (hk : ∀ (s' : z_M) (v5 : Int) (v6 : Int), z_CI s' → z_Fr R_X12_cut_309 r0 s' → (0 ≤ v5 ∧ v5 ≤ 200) → (0 ≤ v6 ∧ v6 ≤ 200) → (v6 ≤ v5) → (y_D s' v5) → (y_TA s') → (y_K s') → z_T (k s' v5 v6) (P_X12_cut_309 r0)) : z_T (fX12_cut_J346 fu s 309 a3 a4 a5 a6 a7 a8 a9 374 t1 t2 r k) (P_X12_cut_309 r0) := by
  refine T_of (fX12_cut_J346.eq_1 ..) ?_
  have u1 := CI_b c (k := 309) (j := 20) bd_309_20
  have u2 := CI_b c (k := 309) (j := 36) bd_309_36
  have u3 := CI_b c (k := 309) (j := 43) bd_309_43
  have u4 := CI_b c (k := 309) (j := 44) bd_309_44
  have u5 := CI_b c (k := 309) (j := 58) bd_309_58
  have u6 := CI_b c (k := 316) (j := 0) bd_316_0
  have u7 := CI_b c (k := 329) (j := 0) bd_329_0
  have u8 := CI_b c (k := 329) (j := 1) bd_329_1
  have t9 : s 309 43 = r0 309 43 := f 309 43 (by decide)
  have t10 : s 309 44 = r0 309 44 := f 309 44 (by decide)
  have t11 : s 309 58 = r0 309 58 := f 309 58 (by decide)
  refine T_if1 (z_ixl (n := 200) (by decide +kernel) (by omega) (by omega)) ?_
  refine T_upg c (bdr_374 t1) (by omega) (fun s12 c13 g15 g16 e17 => ?_)
  have f14 := z_Fr.up (R := R_X12_cut_309) f g15 (fun _ => (Or.inr (Or.inl (⟨by decide, by decide⟩))))
  have t18 : s12 309 20 = s 309 20 := g15 309 20 (by decide)
  have t19 : s12 309 36 = s 309 36 := g15 309 36 (by decide)
  have t20 : s12 309 43 = s 309 43 := g15 309 43 (by decide)
  have t21 : s12 309 44 = s 309 44 := g15 309 44 (by decide)
  have t22 : s12 309 58 = s 309 58 := g15 309 58 (by decide)
  have t23 : s12 316 0 = s 316 0 := g15 316 0 (by decide)
  have t24 : s12 329 0 = s 329 0 := g15 329 0 (by decide)
  have t25 : s12 329 1 = s 329 1 := g15 329 1 (by decide)
  have r26 := y_TA.fr p3 (fun a b h => g15 a b (by omega)) (fun a b h => g15 a b (by omega)) (fun a b h => g15 a b (by omega))
  have r27 := y_K.fr p4 (by omega) (by omega) (g15 309 44 (by decide)) (g15 309 20 (by decide)) (g15 309 58 (by decide)) (fun b => g15 3438 b (by decide)) (fun b => g15 3220 b (by decide)) (fun a b h => g15 a b (by omega))
  have n28 := g15 359 t1 (by decide)
  have r29 : y_D s12 t1 := y_D.cg (y_D.st p6 (fun b h => g15 359 b (by decide)) (fun b h => g16 b (by omega))) (by omega)
  have r30 : y_D s12 (t1 + 1) := y_D.ex r29 (by omega) rfl
  refine T_if1 (by decide +kernel) ?_
  refine T_let 375 (by decide +kernel) ?_
  refine T_if1 (z_ixl (n := 14) (by decide +kernel) (by omega) (by omega)) ?_
  refine T_let 389 (by decide +kernel) ?_
  refine T_if1 (by decide +kernel) ?_
  refine T_let 375 (by decide +kernel) ?_
  refine T_if1 (z_ixl (n := 14) (by decide +kernel) (by omega) (by omega)) ?_
  refine T_let 376 (by decide +kernel) ?_
  refine T_if1 (z_ixl (n := 200) (by decide +kernel) (by omega) (by omega)) ?_
  refine T_leq (fun x31 e32 => ?_)
  have u33 := CI_b c13 (k := 376) (j := a9) (bdr_376 a9)
  refine T_if1 (z_ixl (n := 200) (by decide +kernel) (by omega) (by omega)) ?_
  refine T_upg c13 (bdr_389 a5) (by omega) (fun s34 c35 g37 g38 e39 => ?_)
  have f36 := z_Fr.up (R := R_X12_cut_309) f14 g37 (fun _ => (Or.inr (Or.inl (⟨by decide, by decide⟩))))
  have t40 : s34 309 20 = s 309 20 := (g37 309 20 (by decide)).trans t18
  have t41 : s34 309 36 = s 309 36 := (g37 309 36 (by decide)).trans t19
  have t42 : s34 309 43 = s 309 43 := (g37 309 43 (by decide)).trans t20
  have t43 : s34 309 44 = s 309 44 := (g37 309 44 (by decide)).trans t21
  have t44 : s34 309 58 = s 309 58 := (g37 309 58 (by decide)).trans t22
  have t45 : s34 316 0 = s 316 0 := (g37 316 0 (by decide)).trans t23
  have t46 : s34 329 0 = s 329 0 := (g37 329 0 (by decide)).trans t24
  have t47 : s34 329 1 = s 329 1 := (g37 329 1 (by decide)).trans t25
  have r48 := y_TA.fr r26 (fun a b h => g37 a b (by omega)) (fun a b h => g37 a b (by omega)) (fun a b h => g37 a b (by omega))
  have r49 := y_K.fr r27 (by omega) (by omega) (g37 309 44 (by decide)) (g37 309 20 (by decide)) (g37 309 58 (by decide)) (fun b => g37 3438 b (by decide)) (fun b => g37 3220 b (by decide)) (fun a b h => g37 a b (by omega))
  have r50 := y_D.fr r29 (fun b => g37 359 b (by decide)) (fun b => g37 374 b (by decide))
  have r51 := y_D.fr r30 (fun b => g37 359 b (by decide)) (fun b => g37 374 b (by decide))
  clear t18
  clear t19
  clear t20
  clear t21
  clear t22
  clear t23
  clear t24
  clear t25
  refine T_leq (fun x52 e53 => ?_)
  first | (have w54 := z_wx e53 (by omega)) | (have w54 := z_wr e53)
  exact sj_X12_cut_309_J369 hfu r0 s34 c35 f36 a3 a4 x52 a6 a7 a8 a9 (by omega) (by omega) (by omega) (by omega) (by omega) (by omega) (by omega) (by omega) (by omega) (by omega) (by first | exact y_D.cg r51 (by omega) | exact y_D.cg r50 (by omega) | exact y_D.z (by omega) | exact y_D.ex r51 (by omega) (by omega) | exact y_D.ex r50 (by omega) (by omega)) r48 (by first | exact r49 | exact y_K.b0 (by omega) | exact y_K.k0 (by omega) | exact y_K.bk (by omega)) (by omega) M (by omega) (fun s' v5 v6 v7 v8 v9 c' f' w5 w6 w7 w8 w9 z0 z1 z2 z3 z4 z5 z6 pg => hr s' v5 v6 v7 v8 v9 c' f' w5 w6 w7 w8 w9 z0 z1 z2 z3 z4 z5 z6 (by omega)) hk
theorem sj_X12_cut_309_J282 {fu : Nat} (hfu : 8589934592 ≤ fu) (r0 s : z_M) (c : z_CI s) (f : z_Fr R_X12_cut_309 r0 s) (a3 : Int) (a4 : Int) (a5 : Int) (a6 : Int) (a7 : Int) (a8 : Int) (a9 : Int) (a10 : Int) (b3 : -2147483648 ≤ a3 ∧ a3 ≤ 2147483647) (b4 : -2147483648 ≤ a4 ∧ a4 ≤ 2147483647) (b5 : 0 ≤ a5 ∧ a5 ≤ 200) (b6 : 0 ≤ a6 ∧ a6 ≤ 200) (b7 : (-1) ≤ a7 ∧ a7 ≤ 199) (b8 : -2147483648 ≤ a8 ∧ a8 ≤ 2147483647) (b9 : 0 ≤ a9 ∧ a9 ≤ 199) (b10 : (-1) ≤ a10 ∧ a10 ≤ 199) (p0 : a6 ≤ a5 + 1) (p1 : a5 ≤ a9) (p2 : (a6 = 0 ∧ a7 = -1 ∧ a8 = -1) ∨ (0 ≤ a7 ∧ a7 ≤ a6 - 1)) (p3 : y_D s a5) (p4 : y_TA s) (p5 : y_K s) (p6 : a9 < s 316 0) (p7 : y_CB s a9 a10) (M : Int) (pm : 2147483647 - a9 ≤ M) {r : z_M → Int → Int → Int → Int → Int → z_O} {k : z_M → Int → Int → z_O} (hr : ∀ (s' : z_M) (v5 : Int) (v6 : Int) (v7 : Int) (v8 : Int) (v9 : Int), z_CI s' → z_Fr R_X12_cut_309 r0 s' → (0 ≤ v5 ∧ v5 ≤ 200) → (0 ≤ v6 ∧ v6 ≤ 200) → ((-1) ≤ v7 ∧ v7 ≤ 199) → (-2147483648 ≤ v8 ∧ v8 ≤ 2147483647) → (0 ≤ v9 ∧ v9 ≤ 200) → (v6 ≤ v5) → (v5 ≤ v9) → ((v6 = 0 ∧ v7 = -1 ∧ v8 = -1) ∨ (0 ≤ v7 ∧ v7 ≤ v6 - 1)) → (y_D s' v5) → (y_TA s') → (y_K s') → (v9 ≤ s' 316 0) → (2147483647 - v9 < M) → z_T (r s' v5 v6 v7 v8 v9) (P_X12_cut_309 r0)) (hk : ∀ (s' : z_M) (v5 : Int) (v6 : Int), z_CI s' → z_Fr R_X12_cut_309 r0 s' → (0 ≤ v5 ∧ v5 ≤ 200) → (0 ≤ v6 ∧ v6 ≤ 200) → (v6 ≤ v5) → (y_D s' v5) → (y_TA s') → (y_K s') → z_T (k s' v5 v6) (P_X12_cut_309 r0)) : z_T (fX12_cut_J282 fu s 309 a3 a4 a5 a6 a7 a8 a9 a10 r k) (P_X12_cut_309 r0) := by
  refine T_of (fX12_cut_J282.eq_1 ..) ?_
  have u1 := CI_b c (k := 309) (j := 20) bd_309_20
  have u2 := CI_b c (k := 309) (j := 36) bd_309_36
  have u3 := CI_b c (k := 309) (j := 43) bd_309_43
  have u4 := CI_b c (k := 309) (j := 44) bd_309_44
  have u5 := CI_b c (k := 309) (j := 58) bd_309_58
  have u6 := CI_b c (k := 316) (j := 0) bd_316_0
  have u7 := CI_b c (k := 329) (j := 0) bd_329_0
  have u8 := CI_b c (k := 329) (j := 1) bd_329_1
  have t9 : s 309 43 = r0 309 43 := f 309 43 (by decide)
  have t10 : s 309 44 = r0 309 44 := f 309 44 (by decide)
  have t11 : s 309 58 = r0 309 58 := f 309 58 (by decide)
  refine T_if1 (by decide +kernel) ?_
  refine T_let 330 (by decide +kernel) ?_
  refine T_if1 (z_ixl (n := 14) (by decide +kernel) (by omega) (by omega)) ?_
  refine T_let 344 (by decide +kernel) ?_
  refine T_if1 (by decide +kernel) ?_
  refine T_let 330 (by decide +kernel) ?_
  refine T_if1 (z_ixl (n := 14) (by decide +kernel) (by omega) (by omega)) ?_
  refine T_let 331 (by decide +kernel) ?_
  refine T_if1 (z_ixl (n := 200) (by decide +kernel) (by omega) (by omega)) ?_
  refine T_leq (fun x12 e13 => ?_)
  have u14 := CI_b c (k := 331) (j := a9) (bdr_331 a9)
  refine T_if1 (z_ixl (n := 200) (by decide +kernel) (by omega) (by omega)) ?_
  refine T_upg c (bdr_344 a5) (by omega) (fun s15 c16 g18 g19 e20 => ?_)
  have f17 := z_Fr.up (R := R_X12_cut_309) f g18 (fun _ => (Or.inr (Or.inl (⟨by decide, by decide⟩))))
  have t21 : s15 309 20 = s 309 20 := g18 309 20 (by decide)
  have t22 : s15 309 36 = s 309 36 := g18 309 36 (by decide)
  have t23 : s15 309 43 = s 309 43 := g18 309 43 (by decide)
  have t24 : s15 309 44 = s 309 44 := g18 309 44 (by decide)
  have t25 : s15 309 58 = s 309 58 := g18 309 58 (by decide)
  have t26 : s15 316 0 = s 316 0 := g18 316 0 (by decide)
  have t27 : s15 329 0 = s 329 0 := g18 329 0 (by decide)
  have t28 : s15 329 1 = s 329 1 := g18 329 1 (by decide)
  have r29 := y_D.fr p3 (fun b => g18 359 b (by decide)) (fun b => g18 374 b (by decide))
  have r30 := y_TA.fr p4 (fun a b h => g18 a b (by omega)) (fun a b h => g18 a b (by omega)) (fun a b h => g18 a b (by omega))
  have r31 := y_K.fr p5 (by omega) (by omega) (g18 309 44 (by decide)) (g18 309 20 (by decide)) (g18 309 58 (by decide)) (fun b => g18 3438 b (by decide)) (fun b => g18 3220 b (by decide)) (fun a b h => g18 a b (by omega))
  have r32 := y_CB.fr p7 (fun b => g18 346 b (by decide)) (fun b => g18 7657 b (by decide))
  refine T_if1 (by decide +kernel) ?_
  refine T_let 345 (by decide +kernel) ?_
  refine T_if1 (z_ixl (n := 14) (by decide +kernel) (by omega) (by omega)) ?_
  refine T_let 359 (by decide +kernel) ?_
  refine T_if1 (by decide +kernel) ?_
  refine T_let 345 (by decide +kernel) ?_
  refine T_if1 (z_ixl (n := 14) (by decide +kernel) (by omega) (by omega)) ?_
  refine T_let 346 (by decide +kernel) ?_
  refine T_if1 (z_ixl (n := 200) (by decide +kernel) (by omega) (by omega)) ?_
  refine T_leq (fun x33 e34 => ?_)
  have u35 := CI_b c16 (k := 346) (j := a9) (bdr_346 a9)
  refine T_if1 (z_ixl (n := 200) (by decide +kernel) (by omega) (by omega)) ?_
  refine T_upg c16 (bdr_359 a5) (by omega) (fun s36 c37 g39 g40 e41 => ?_)
  have f38 := z_Fr.up (R := R_X12_cut_309) f17 g39 (fun _ => (Or.inr (Or.inl (⟨by decide, by decide⟩))))
  have t42 : s36 309 20 = s 309 20 := (g39 309 20 (by decide)).trans t21
  have t43 : s36 309 36 = s 309 36 := (g39 309 36 (by decide)).trans t22
  have t44 : s36 309 43 = s 309 43 := (g39 309 43 (by decide)).trans t23
  have t45 : s36 309 44 = s 309 44 := (g39 309 44 (by decide)).trans t24
  have t46 : s36 309 58 = s 309 58 := (g39 309 58 (by decide)).trans t25
  have t47 : s36 316 0 = s 316 0 := (g39 316 0 (by decide)).trans t26
  have t48 : s36 329 0 = s 329 0 := (g39 329 0 (by decide)).trans t27
  have t49 : s36 329 1 = s 329 1 := (g39 329 1 (by decide)).trans t28
  have r50 := y_TA.fr r30 (fun a b h => g39 a b (by omega)) (fun a b h => g39 a b (by omega)) (fun a b h => g39 a b (by omega))
  have r51 := y_K.fr r31 (by omega) (by omega) (g39 309 44 (by decide)) (g39 309 20 (by decide)) (g39 309 58 (by decide)) (fun b => g39 3438 b (by decide)) (fun b => g39 3220 b (by decide)) (fun a b h => g39 a b (by omega))
  have r52 := y_CB.fr r32 (fun b => g39 346 b (by decide)) (fun b => g39 7657 b (by decide))
  have t53 : s36 346 a9 = x33 := by first | exact (g39 346 a9 (by omega)).trans e34 | exact (g40 a9 (by omega)).trans e34
  have r54 := y_D.st r29 (fun b h => g40 b (by omega)) (fun b h => g39 374 b (by decide))
  clear t21
  clear t22
  clear t23
  clear t24
  clear t25
  clear t26
  clear t27
  clear t28
  refine T_if1 (by decide +kernel) ?_
  refine T_let 360 (by decide +kernel) ?_
  refine T_if1 (z_ixl (n := 14) (by decide +kernel) (by omega) (by omega)) ?_
  refine T_let 374 (by decide +kernel) ?_
  have n55 := y_CB.to r52
  refine T_ite (fun h56 => ?_) (fun h56 => ?_)
  · refine T_if1 (by decide +kernel) ?_
    refine T_let 7657 (by decide +kernel) ?_
    refine T_if1 (z_ixl (n := 200) (by decide +kernel) (by omega) (by omega)) ?_
    refine T_leq (fun x57 e58 => ?_)
    have u59 := CI_b c37 (k := 7657) (j := a10) (bdr_7657 a10)
    exact sj_X12_cut_309_J346 hfu r0 s36 c37 f38 a3 a4 a5 a6 a7 a8 a9 a5 x57 (by omega) (by omega) (by omega) (by omega) (by omega) (by omega) (by omega) (by omega) (by omega) (by omega) (by omega) (by omega) r50 (by first | exact r51 | exact y_K.b0 (by omega) | exact y_K.k0 (by omega) | exact y_K.bk (by omega)) (by omega) (by first | exact y_D.cg r54 (by omega) | exact y_D.z (by omega) | exact y_D.ex r54 (by omega) (by omega)) (by omega) (by omega) M (by omega) (fun s' v5 v6 v7 v8 v9 c' f' w5 w6 w7 w8 w9 z0 z1 z2 z3 z4 z5 z6 pg => hr s' v5 v6 v7 v8 v9 c' f' w5 w6 w7 w8 w9 z0 z1 z2 z3 z4 z5 z6 (by omega)) hk
  · exact sj_X12_cut_309_J346 hfu r0 s36 c37 f38 a3 a4 a5 a6 a7 a8 a9 a5 (-1) (by omega) (by omega) (by omega) (by omega) (by omega) (by omega) (by omega) (by omega) (by omega) (by omega) (by omega) (by omega) r50 (by first | exact r51 | exact y_K.b0 (by omega) | exact y_K.k0 (by omega) | exact y_K.bk (by omega)) (by omega) (by first | exact y_D.cg r54 (by omega) | exact y_D.z (by omega) | exact y_D.ex r54 (by omega) (by omega)) (by omega) (by omega) M (by omega) (fun s' v5 v6 v7 v8 v9 c' f' w5 w6 w7 w8 w9 z0 z1 z2 z3 z4 z5 z6 pg => hr s' v5 v6 v7 v8 v9 c' f' w5 w6 w7 w8 w9 z0 z1 z2 z3 z4 z5 z6 (by omega)) hk
theorem sl_X12_cut_309_L241 {fu : Nat} (hfu : 8589934592 ≤ fu) (r0 : z_M) (a3 : Int) (a4 : Int) (a5 : Int) (a6 : Int) (a7 : Int) (a8 : Int) (a9 : Int) (a10 : Int) (b3 : -2147483648 ≤ a3 ∧ a3 ≤ 2147483647) (b4 : -2147483648 ≤ a4 ∧ a4 ≤ 2147483647) (b5 : 0 ≤ a5 ∧ a5 ≤ 200) (b6 : 0 ≤ a6 ∧ a6 ≤ 199) (b7 : (-1) ≤ a7 ∧ a7 ≤ 199) (b8 : -2147483648 ≤ a8 ∧ a8 ≤ 2147483647) (b9 : 0 ≤ a9 ∧ a9 ≤ 199) (b10 : 0 ≤ a10 ∧ a10 ≤ 199) {k : z_M → z_O} (hk : ∀ (s' : z_M), z_CI s' → z_Fr R_X12_cut_309 r0 s' → (y_D s' a5) → (y_CB s' a9 a10) → (a9 < s' 316 0) → (y_TA s') → (y_K s') → z_T (k s') (P_X12_cut_309 r0)) : ∀ (F : Nat) (s : z_M) (a11 : Int), z_CI s → z_Fr R_X12_cut_309 r0 s → (0 ≤ a11 ∧ a11 ≤ 20) → (y_D s a5) → (y_CB s a9 a10) → (a9 < s 316 0) → (y_TA s) → (y_K s) → (2147483647 - a11 < (F : Int)) → z_T (fX12_cut_L241 fu 309 a3 a4 a5 a6 a7 a8 a9 a10 F s a11 k) (P_X12_cut_309 r0) := by
  intro F
  induction F with
  | zero =>
    intro s a11 c f b11 i0 i1 i2 i3 i4 hm
    have u37 := CI_b c (k := 309) (j := 20) bd_309_20
    have u38 := CI_b c (k := 309) (j := 36) bd_309_36
    have u39 := CI_b c (k := 309) (j := 43) bd_309_43
    have u40 := CI_b c (k := 309) (j := 44) bd_309_44
    have u41 := CI_b c (k := 309) (j := 58) bd_309_58
    have u42 := CI_b c (k := 316) (j := 0) bd_316_0
    have u43 := CI_b c (k := 329) (j := 0) bd_329_0
    have u44 := CI_b c (k := 329) (j := 1) bd_329_1
    exfalso; omega
  | succ F ih =>
    intro s a11 c f b11 i0 i1 i2 i3 i4 hm
    refine T_of (fX12_cut_L241.eq_2 ..) ?_
    have u1 := CI_b c (k := 309) (j := 20) bd_309_20
    have u2 := CI_b c (k := 309) (j := 36) bd_309_36
    have u3 := CI_b c (k := 309) (j := 43) bd_309_43
    have u4 := CI_b c (k := 309) (j := 44) bd_309_44
    have u5 := CI_b c (k := 309) (j := 58) bd_309_58
    have u6 := CI_b c (k := 316) (j := 0) bd_316_0
    have u7 := CI_b c (k := 329) (j := 0) bd_329_0
    have u8 := CI_b c (k := 329) (j := 1) bd_329_1
    have t9 : s 309 43 = r0 309 43 := f 309 43 (by decide)
    have t10 : s 309 44 = r0 309 44 := f 309 44 (by decide)
    have t11 : s 309 58 = r0 309 58 := f 309 58 (by decide)
    refine T_ite (fun h12 => ?_) (fun h12 => ?_)
    · exact hk s c f (by first | exact y_D.cg i0 (by omega) | exact y_D.z (by omega) | exact y_D.ex i0 (by omega) (by omega)) (by first | exact y_CB.cg i1 (by omega) (by omega) | exact y_CB.a (by omega) (by omega) | exact y_CB.b (by omega) (by assumption) (by omega)) (by omega) i3 (by first | exact i4 | exact y_K.b0 (by omega) | exact y_K.k0 (by omega) | exact y_K.bk (by omega))
    · refine T_if1 (by decide +kernel) ?_
      refine T_let 405 (by decide +kernel) ?_
      refine T_if1 (z_ixl (n := 14) (by decide +kernel) (by omega) (by omega)) ?_
      refine T_let 3019 (by decide +kernel) ?_
      refine T_if1 (z_ixl (n := 200) (by decide +kernel) (by omega) (by omega)) ?_
      refine T_let (3020 + a6) (gr_3019 a6) ?_
      refine T_if1 (by decide +kernel) ?_
      refine T_let 405 (by decide +kernel) ?_
      refine T_if1 (z_ixl (n := 14) (by decide +kernel) (by omega) (by omega)) ?_
      refine T_let 406 (by decide +kernel) ?_
      refine T_if1 (z_ixl (n := 200) (by decide +kernel) (by omega) (by omega)) ?_
      refine T_let (407 + a10) (gr_406 a10) ?_
      refine T_if1 (z_ixs (sh_L0 (by omega)) (by omega) (by omega) (by omega)) ?_
      refine T_leq (fun x13 e14 => ?_)
      have u15 := CI_w c (k := (407 + a10)) (j := a11) (by rw [sh_L0 (by omega)]; decide)
      refine T_if1 (z_ixs (sh_L13 (by omega)) (by omega) (by omega) (by omega)) ?_
      refine T_upg c (z_bdLe (c2 := 407 + a10) (by omega) (by omega)) (by rw [← (by assumption : s (407 + a10) a11 = x13)]; exact c _ _) (fun s16 c17 g19 g20 e21 => ?_)
      have f18 := z_Fr.up (R := R_X12_cut_309) f g19 (fun b => by unfold R_X12_cut_309; omega)
      have t22 : s16 309 20 = s 309 20 := g19 309 20 (by omega)
      have t23 : s16 309 36 = s 309 36 := g19 309 36 (by omega)
      have t24 : s16 309 43 = s 309 43 := g19 309 43 (by omega)
      have t25 : s16 309 44 = s 309 44 := g19 309 44 (by omega)
      have t26 : s16 309 58 = s 309 58 := g19 309 58 (by omega)
      have t27 : s16 316 0 = s 316 0 := g19 316 0 (by omega)
      have t28 : s16 329 0 = s 329 0 := g19 329 0 (by omega)
      have t29 : s16 329 1 = s 329 1 := g19 329 1 (by omega)
      have r30 := y_D.fr i0 (fun b => g19 359 b (by omega)) (fun b => g19 374 b (by omega))
      have r31 := y_CB.fr i1 (fun b => g19 346 b (by omega)) (fun b => g19 7657 b (by omega))
      have r32 := y_TA.fr i3 (fun a b h => g19 a b (by omega)) (fun a b h => g19 a b (by omega)) (fun a b h => g19 a b (by omega))
      have r33 := y_K.fr i4 (by omega) (by omega) (g19 309 44 (by omega)) (g19 309 20 (by omega)) (g19 309 58 (by omega)) (fun b => g19 3438 b (by omega)) (fun b => g19 3220 b (by omega)) (fun a b h => g19 a b (by omega))
      refine T_leq (fun x34 e35 => ?_)
      first | (have w36 := z_wx e35 (by omega)) | (have w36 := z_wr e35)
      exact ih s16 x34 c17 f18 (by omega) (by first | exact y_D.cg r30 (by omega) | exact y_D.z (by omega) | exact y_D.ex r30 (by omega) (by omega)) (by first | exact y_CB.cg r31 (by omega) (by omega) | exact y_CB.a (by omega) (by omega) | exact y_CB.b (by omega) (by assumption) (by omega)) (by omega) r32 (by first | exact r33 | exact y_K.b0 (by omega) | exact y_K.k0 (by omega) | exact y_K.bk (by omega)) (by omega)
theorem sj_X12_cut_309_J212 {fu : Nat} (hfu : 8589934592 ≤ fu) (r0 s : z_M) (c : z_CI s) (f : z_Fr R_X12_cut_309 r0 s) (a3 : Int) (a4 : Int) (a5 : Int) (a6 : Int) (a9 : Int) (a10 : Int) (t0 : Int) (t1 : Int) (b3 : -2147483648 ≤ a3 ∧ a3 ≤ 2147483647) (b4 : -2147483648 ≤ a4 ∧ a4 ≤ 2147483647) (b5 : 0 ≤ a5 ∧ a5 ≤ 200) (b6 : 0 ≤ a6 ∧ a6 ≤ 199) (b9 : 0 ≤ a9 ∧ a9 ≤ 199) (b10 : 0 ≤ a10 ∧ a10 ≤ 199) (d0 : (-1) ≤ t0 ∧ t0 ≤ 199) (d1 : 0 ≤ t1 ∧ t1 ≤ 1) (p0 : a6 ≤ a5) (p1 : a5 ≤ a9) (p2 : y_D s a5) (p3 : a9 < s 316 0) (p4 : (a6 = 0 ∧ t0 = -1 ∧ t1 = 1) ∨ (0 ≤ t0 ∧ t0 ≤ a6 - 1)) (p5 : y_CB s a9 a10) (p6 : y_TA s) (p7 : y_K s) (M : Int) (pm : 2147483647 - a9 ≤ M) {r : z_M → Int → Int → Int → Int → Int → z_O} {k : z_M → Int → Int → z_O} (hr : ∀ (s' : z_M) (v5 : Int) (v6 : Int) (v7 : Int) (v8 : Int) (v9 : Int), z_CI s' → z_Fr R_X12_cut_309 r0 s' → (0 ≤ v5 ∧ v5 ≤ 200) → (0 ≤ v6 ∧ v6 ≤ 200) → ((-1) ≤ v7 ∧ v7 ≤ 199) → (-2147483648 ≤ v8 ∧ v8 ≤ 2147483647) → (0 ≤ v9 ∧ v9 ≤ 200) → (v6 ≤ v5) → (v5 ≤ v9) → ((v6 = 0 ∧ v7 = -1 ∧ v8 = -1) ∨ (0 ≤ v7 ∧ v7 ≤ v6 - 1)) → (y_D s' v5) → (y_TA s') → (y_K s') → (v9 ≤ s' 316 0) → (2147483647 - v9 < M) → z_T (r s' v5 v6 v7 v8 v9) (P_X12_cut_309 r0)) (hk : ∀ (s' : z_M) (v5 : Int) (v6 : Int), z_CI s' → z_Fr R_X12_cut_309 r0 s' → (0 ≤ v5 ∧ v5 ≤ 200) → (0 ≤ v6 ∧ v6 ≤ 200) → (v6 ≤ v5) → (y_D s' v5) → (y_TA s') → (y_K s') → z_T (k s' v5 v6) (P_X12_cut_309 r0)) : z_T (fX12_cut_J212 fu s 309 a3 a4 a5 a6 a9 a10 t0 t1 r k) (P_X12_cut_309 r0) := by
  refine T_of (fX12_cut_J212.eq_1 ..) ?_
  have u1 := CI_b c (k := 309) (j := 20) bd_309_20
  have u2 := CI_b c (k := 309) (j := 36) bd_309_36
  have u3 := CI_b c (k := 309) (j := 43) bd_309_43
  have u4 := CI_b c (k := 309) (j := 44) bd_309_44
  have u5 := CI_b c (k := 309) (j := 58) bd_309_58
  have u6 := CI_b c (k := 316) (j := 0) bd_316_0
  have u7 := CI_b c (k := 329) (j := 0) bd_329_0
  have u8 := CI_b c (k := 329) (j := 1) bd_329_1
  have t9 : s 309 43 = r0 309 43 := f 309 43 (by decide)
  have t10 : s 309 44 = r0 309 44 := f 309 44 (by decide)
  have t11 : s 309 58 = r0 309 58 := f 309 58 (by decide)
  refine T_leq (fun x12 e13 => ?_)
  first | (have w14 := z_wx e13 (by omega)) | (have w14 := z_wr e13)
  refine T_if1 (by decide +kernel) ?_
  refine T_let 390 (by decide +kernel) ?_
  refine T_if1 (z_ixl (n := 14) (by decide +kernel) (by omega) (by omega)) ?_
  refine T_let 391 (by decide +kernel) ?_
  refine T_if1 (z_ixl (n := 200) (by decide +kernel) (by omega) (by omega)) ?_
  refine T_leq (fun x15 e16 => ?_)
  have u17 := CI_b c (k := 391) (j := a10) (bdg (c := 391) (by omega) (by omega))
  refine T_if1 (by decide +kernel) ?_
  refine T_let 390 (by decide +kernel) ?_
  refine T_if1 (z_ixl (n := 14) (by decide +kernel) (by omega) (by omega)) ?_
  refine T_let 404 (by decide +kernel) ?_
  refine T_if1 (z_ixl (n := 200) (by decide +kernel) (by omega) (by omega)) ?_
  refine T_upg c (bdg (c := 404) (by omega) (by omega)) (by omega) (fun s18 c19 g21 g22 e23 => ?_)
  have f20 := z_Fr.up (R := R_X12_cut_309) f g21 (fun _ => (Or.inr (Or.inl (⟨by decide, by decide⟩))))
  have t24 : s18 309 20 = s 309 20 := g21 309 20 (by decide)
  have t25 : s18 309 36 = s 309 36 := g21 309 36 (by decide)
  have t26 : s18 309 43 = s 309 43 := g21 309 43 (by decide)
  have t27 : s18 309 44 = s 309 44 := g21 309 44 (by decide)
  have t28 : s18 309 58 = s 309 58 := g21 309 58 (by decide)
  have t29 : s18 316 0 = s 316 0 := g21 316 0 (by decide)
  have t30 : s18 329 0 = s 329 0 := g21 329 0 (by decide)
  have t31 : s18 329 1 = s 329 1 := g21 329 1 (by decide)
  have r32 := y_D.fr p2 (fun b => g21 359 b (by decide)) (fun b => g21 374 b (by decide))
  have r33 := y_CB.fr p5 (fun b => g21 346 b (by decide)) (fun b => g21 7657 b (by decide))
  have r34 := y_TA.fr p6 (fun a b h => g21 a b (by omega)) (fun a b h => g21 a b (by omega)) (fun a b h => g21 a b (by omega))
  have r35 := y_K.fr p7 (by omega) (by omega) (g21 309 44 (by decide)) (g21 309 20 (by decide)) (g21 309 58 (by decide)) (fun b => g21 3438 b (by decide)) (fun b => g21 3220 b (by decide)) (fun a b h => g21 a b (by omega))
  refine sl_X12_cut_309_L241 hfu r0 a3 a4 a5 a6 x12 x15 a9 a10 (by omega) (by omega) (by omega) (by omega) (by omega) (by omega) (by omega) (by omega) (fun s36 c37 f38 g39 g40 g41 g42 g43 => ?_) fu s18 0 c19 f20 (by omega) (by first | exact y_D.cg r32 (by omega) | exact y_D.z (by omega) | exact y_D.ex r32 (by omega) (by omega)) (by first | exact y_CB.cg r33 (by omega) (by omega) | exact y_CB.a (by omega) (by omega) | exact y_CB.b (by omega) (by assumption) (by omega)) (by omega) r34 (by first | exact r35 | exact y_K.b0 (by omega) | exact y_K.k0 (by omega) | exact y_K.bk (by omega)) (by omega)
  have u44 := CI_b c37 (k := 309) (j := 20) bd_309_20
  have u45 := CI_b c37 (k := 309) (j := 36) bd_309_36
  have u46 := CI_b c37 (k := 309) (j := 43) bd_309_43
  have u47 := CI_b c37 (k := 309) (j := 44) bd_309_44
  have u48 := CI_b c37 (k := 309) (j := 58) bd_309_58
  have u49 := CI_b c37 (k := 316) (j := 0) bd_316_0
  have u50 := CI_b c37 (k := 329) (j := 0) bd_329_0
  have u51 := CI_b c37 (k := 329) (j := 1) bd_329_1
  have t52 : s36 309 43 = r0 309 43 := f38 309 43 (by decide)
  have t53 : s36 309 44 = r0 309 44 := f38 309 44 (by decide)
  have t54 : s36 309 58 = r0 309 58 := f38 309 58 (by decide)
  refine T_leq (fun x55 e56 => ?_)
  first | (have w57 := z_wx e56 (by omega)) | (have w57 := z_wr e56)
  exact sj_X12_cut_309_J282 hfu r0 s36 c37 f38 a3 a4 a5 x55 x12 x15 a9 a10 (by omega) (by omega) (by omega) (by omega) (by omega) (by omega) (by omega) (by omega) (by omega) (by omega) (by omega) (by first | exact y_D.cg g39 (by omega) | exact y_D.z (by omega) | exact y_D.ex g39 (by omega) (by omega)) g42 (by first | exact g43 | exact y_K.b0 (by omega) | exact y_K.k0 (by omega) | exact y_K.bk (by omega)) (by omega) (by first | exact y_CB.cg g40 (by omega) (by omega) | exact y_CB.a (by omega) (by omega) | exact y_CB.b (by omega) (by assumption) (by omega)) M (by omega) (fun s' v5 v6 v7 v8 v9 c' f' w5 w6 w7 w8 w9 z0 z1 z2 z3 z4 z5 z6 pg => hr s' v5 v6 v7 v8 v9 c' f' w5 w6 w7 w8 w9 z0 z1 z2 z3 z4 z5 z6 (by omega)) hk
theorem sj_X12_cut_309_J154 {fu : Nat} (hfu : 8589934592 ≤ fu) (r0 s : z_M) (c : z_CI s) (f : z_Fr R_X12_cut_309 r0 s) (a3 : Int) (a4 : Int) (a5 : Int) (a6 : Int) (a7 : Int) (a8 : Int) (a9 : Int) (b3 : -2147483648 ≤ a3 ∧ a3 ≤ 2147483647) (b4 : -2147483648 ≤ a4 ∧ a4 ≤ 2147483647) (b5 : 0 ≤ a5 ∧ a5 ≤ 200) (b6 : 0 ≤ a6 ∧ a6 ≤ 200) (b7 : (-1) ≤ a7 ∧ a7 ≤ 199) (b8 : -2147483648 ≤ a8 ∧ a8 ≤ 2147483647) (b9 : 0 ≤ a9 ∧ a9 ≤ 199) (p0 : a6 ≤ a5) (p1 : a5 ≤ a9) (p2 : (a6 = 0 ∧ a7 = -1 ∧ a8 = -1) ∨ (0 ≤ a7 ∧ a7 ≤ a6 - 1)) (p3 : y_D s a5) (p4 : y_TA s) (p5 : y_K s) (p6 : a9 < s 316 0) (M : Int) (pm : 2147483647 - a9 ≤ M) {r : z_M → Int → Int → Int → Int → Int → z_O} {k : z_M → Int → Int → z_O} (hr : ∀ (s' : z_M) (v5 : Int) (v6 : Int) (v7 : Int) (v8 : Int) (v9 : Int), z_CI s' → z_Fr R_X12_cut_309 r0 s' → (0 ≤ v5 ∧ v5 ≤ 200) → (0 ≤ v6 ∧ v6 ≤ 200) → ((-1) ≤ v7 ∧ v7 ≤ 199) → (-2147483648 ≤ v8 ∧ v8 ≤ 2147483647) → (0 ≤ v9 ∧ v9 ≤ 200) → (v6 ≤ v5) → (v5 ≤ v9) → ((v6 = 0 ∧ v7 = -1 ∧ v8 = -1) ∨ (0 ≤ v7 ∧ v7 ≤ v6 - 1)) → (y_D s' v5) → (y_TA s') → (y_K s') → (v9 ≤ s' 316 0) → (2147483647 - v9 < M) → z_T (r s' v5 v6 v7 v8 v9) (P_X12_cut_309 r0)) (hk : ∀ (s' : z_M) (v5 : Int) (v6 : Int), z_CI s' → z_Fr R_X12_cut_309 r0 s' → (0 ≤ v5 ∧ v5 ≤ 200) → (0 ≤ v6 ∧ v6 ≤ 200) → (v6 ≤ v5) → (y_D s' v5) → (y_TA s') → (y_K s') → z_T (k s' v5 v6) (P_X12_cut_309 r0)) : z_T (fX12_cut_J154 fu s 309 a3 a4 a5 a6 a7 a8 a9 r k) (P_X12_cut_309 r0) := by
  refine T_of (fX12_cut_J154.eq_1 ..) ?_
  have u1 := CI_b c (k := 309) (j := 20) bd_309_20
  have u2 := CI_b c (k := 309) (j := 36) bd_309_36
  have u3 := CI_b c (k := 309) (j := 43) bd_309_43
  have u4 := CI_b c (k := 309) (j := 44) bd_309_44
  have u5 := CI_b c (k := 309) (j := 58) bd_309_58
  have u6 := CI_b c (k := 316) (j := 0) bd_316_0
  have u7 := CI_b c (k := 329) (j := 0) bd_329_0
  have u8 := CI_b c (k := 329) (j := 1) bd_329_1
  have t9 : s 309 43 = r0 309 43 := f 309 43 (by decide)
  have t10 : s 309 44 = r0 309 44 := f 309 44 (by decide)
  have t11 : s 309 58 = r0 309 58 := f 309 58 (by decide)
  refine T_if1 (by decide +kernel) ?_
  refine T_let 360 (by decide +kernel) ?_
  refine T_if1 (z_ixl (n := 14) (by decide +kernel) (by omega) (by omega)) ?_
  refine T_let 361 (by decide +kernel) ?_
  refine T_if1 (z_ixl (n := 200) (by decide +kernel) (by omega) (by omega)) ?_
  refine T_leq (fun x12 e13 => ?_)
  have u14 := CI_b c (k := 361) (j := a9) (bdr_361 a9)
  have n15 := y_TA.at0 p4 (i := a9) (by omega) (by omega)
  refine T_ite (fun h16 => ?_) (fun h16 => ?_)
  · exact sj_X12_cut_309_J282 hfu r0 s c f a3 a4 a5 a6 a7 a8 a9 x12 (by omega) (by omega) (by omega) (by omega) (by omega) (by omega) (by omega) (by omega) (by omega) (by omega) (by omega) (by first | exact y_D.cg p3 (by omega) | exact y_D.z (by omega) | exact y_D.ex p3 (by omega) (by omega)) p4 (by first | exact p5 | exact y_K.b0 (by omega) | exact y_K.k0 (by omega) | exact y_K.bk (by omega)) (by omega) (by first | exact y_CB.a (by omega) (by omega) | exact y_CB.b (by omega) (by assumption) (by omega)) M (by omega) (fun s' v5 v6 v7 v8 v9 c' f' w5 w6 w7 w8 w9 z0 z1 z2 z3 z4 z5 z6 pg => hr s' v5 v6 v7 v8 v9 c' f' w5 w6 w7 w8 w9 z0 z1 z2 z3 z4 z5 z6 (by omega)) hk
  · refine T_if1 (by decide +kernel) ?_
    refine T_let 7657 (by decide +kernel) ?_
    refine T_if1 (z_ixl (n := 200) (by decide +kernel) (by omega) (by omega)) ?_
    refine T_leq (fun x17 e18 => ?_)
    have u19 := CI_b c (k := 7657) (j := x12) (bdr_7657 x12)
    refine T_ite (fun h20 => ?_) (fun h20 => ?_)
    · exact sj_X12_cut_309_J282 hfu r0 s c f a3 a4 a5 a6 a7 a8 a9 x12 (by omega) (by omega) (by omega) (by omega) (by omega) (by omega) (by omega) (by omega) (by omega) (by omega) (by omega) (by first | exact y_D.cg p3 (by omega) | exact y_D.z (by omega) | exact y_D.ex p3 (by omega) (by omega)) p4 (by first | exact p5 | exact y_K.b0 (by omega) | exact y_K.k0 (by omega) | exact y_K.bk (by omega)) (by omega) (by first | exact y_CB.a (by omega) (by omega) | exact y_CB.b (by omega) (by assumption) (by omega)) M (by omega) (fun s' v5 v6 v7 v8 v9 c' f' w5 w6 w7 w8 w9 z0 z1 z2 z3 z4 z5 z6 pg => hr s' v5 v6 v7 v8 v9 c' f' w5 w6 w7 w8 w9 z0 z1 z2 z3 z4 z5 z6 (by omega)) hk
    · refine T_if1 (by decide +kernel) ?_
      refine T_let 7657 (by decide +kernel) ?_
      refine T_if1 (z_ixl (n := 200) (by decide +kernel) (by omega) (by omega)) ?_
      refine T_upg c (bdr_7657 x12) (by omega) (fun s21 c22 g24 g25 e26 => ?_)
      have f23 := z_Fr.up (R := R_X12_cut_309) f g24 (fun _ => (Or.inr (Or.inr (Or.inr (Or.inl (⟨by decide, by decide⟩))))))
      have t27 : s21 309 20 = s 309 20 := g24 309 20 (by decide)
      have t28 : s21 309 36 = s 309 36 := g24 309 36 (by decide)
      have t29 : s21 309 43 = s 309 43 := g24 309 43 (by decide)
      have t30 : s21 309 44 = s 309 44 := g24 309 44 (by decide)
      have t31 : s21 309 58 = s 309 58 := g24 309 58 (by decide)
      have t32 : s21 316 0 = s 316 0 := g24 316 0 (by decide)
      have t33 : s21 329 0 = s 329 0 := g24 329 0 (by decide)
      have t34 : s21 329 1 = s 329 1 := g24 329 1 (by decide)
      have r35 := y_D.fr p3 (fun b => g24 359 b (by decide)) (fun b => g24 374 b (by decide))
      have r36 := y_TA.fr p4 (fun a b h => g24 a b (by omega)) (fun a b h => g24 a b (by omega)) (fun a b h => g24 a b (by omega))
      have r37 := y_K.fr p5 (by omega) (by omega) (g24 309 44 (by decide)) (g24 309 20 (by decide)) (g24 309 58 (by decide)) (fun b => g24 3438 b (by decide)) (fun b => g24 3220 b (by decide)) (fun a b h => g24 a b (by omega))
      have r38 : y_CB s21 a9 x12 := Or.inr ⟨by omega, by omega⟩
      refine T_if1 (by decide +kernel) ?_
      refine T_let 390 (by decide +kernel) ?_
      refine T_if1 (z_ixl (n := 14) (by decide +kernel) (by omega) (by omega)) ?_
      refine T_let 391 (by decide +kernel) ?_
      refine T_if1 (z_ixl (n := 200) (by decide +kernel) (by omega) (by omega)) ?_
      refine T_leq (fun x39 e40 => ?_)
      have u41 := CI_b c22 (k := 391) (j := x12) (bdg (c := 391) (by omega) (by omega))
      refine T_ite (fun h42 => ?_) (fun h42 => ?_)
      · exact sj_X12_cut_309_J212 hfu r0 s21 c22 f23 a3 a4 a5 a6 a9 x12 a7 1 (by omega) (by omega) (by omega) (by omega) (by omega) (by omega) (by omega) (by omega) (by omega) (by omega) (by first | exact y_D.cg r35 (by omega) | exact y_D.z (by omega) | exact y_D.ex r35 (by omega) (by omega)) (by omega) (by omega) (by first | exact y_CB.cg r38 (by omega) (by omega) | exact y_CB.a (by omega) (by omega) | exact y_CB.b (by omega) (by assumption) (by omega)) r36 (by first | exact r37 | exact y_K.b0 (by omega) | exact y_K.k0 (by omega) | exact y_K.bk (by omega)) M (by omega) (fun s' v5 v6 v7 v8 v9 c' f' w5 w6 w7 w8 w9 z0 z1 z2 z3 z4 z5 z6 pg => hr s' v5 v6 v7 v8 v9 c' f' w5 w6 w7 w8 w9 z0 z1 z2 z3 z4 z5 z6 (by omega)) hk
      · exact sj_X12_cut_309_J212 hfu r0 s21 c22 f23 a3 a4 a5 a6 a9 x12 a7 0 (by omega) (by omega) (by omega) (by omega) (by omega) (by omega) (by omega) (by omega) (by omega) (by omega) (by first | exact y_D.cg r35 (by omega) | exact y_D.z (by omega) | exact y_D.ex r35 (by omega) (by omega)) (by omega) (by omega) (by first | exact y_CB.cg r38 (by omega) (by omega) | exact y_CB.a (by omega) (by omega) | exact y_CB.b (by omega) (by assumption) (by omega)) r36 (by first | exact r37 | exact y_K.b0 (by omega) | exact y_K.k0 (by omega) | exact y_K.bk (by omega)) M (by omega) (fun s' v5 v6 v7 v8 v9 c' f' w5 w6 w7 w8 w9 z0 z1 z2 z3 z4 z5 z6 pg => hr s' v5 v6 v7 v8 v9 c' f' w5 w6 w7 w8 w9 z0 z1 z2 z3 z4 z5 z6 (by omega)) hk
theorem sl_X12_cut_309_L125 {fu : Nat} (hfu : 8589934592 ≤ fu) (r0 : z_M) (a3 : Int) (a4 : Int) (b3 : -2147483648 ≤ a3 ∧ a3 ≤ 2147483647) (b4 : -2147483648 ≤ a4 ∧ a4 ≤ 2147483647) {k : z_M → Int → Int → z_O} (hk : ∀ (s' : z_M) (v5 : Int) (v6 : Int), z_CI s' → z_Fr R_X12_cut_309 r0 s' → (0 ≤ v5 ∧ v5 ≤ 200) → (0 ≤ v6 ∧ v6 ≤ 200) → (v6 ≤ v5) → (y_D s' v5) → (y_TA s') → (y_K s') → z_T (k s' v5 v6) (P_X12_cut_309 r0)) : ∀ (F : Nat) (s : z_M) (a5 : Int) (a6 : Int) (a7 : Int) (a8 : Int) (a9 : Int), z_CI s → z_Fr R_X12_cut_309 r0 s → (0 ≤ a5 ∧ a5 ≤ 200) → (0 ≤ a6 ∧ a6 ≤ 200) → ((-1) ≤ a7 ∧ a7 ≤ 199) → (-2147483648 ≤ a8 ∧ a8 ≤ 2147483647) → (0 ≤ a9 ∧ a9 ≤ 200) → (a6 ≤ a5) → (a5 ≤ a9) → ((a6 = 0 ∧ a7 = -1 ∧ a8 = -1) ∨ (0 ≤ a7 ∧ a7 ≤ a6 - 1)) → (y_D s a5) → (y_TA s) → (y_K s) → (a9 ≤ s 316 0) → (2147483647 - a9 < (F : Int)) → z_T (fX12_cut_L125 fu 309 a3 a4 F s a5 a6 a7 a8 a9 k) (P_X12_cut_309 r0) := by
  intro F
  induction F with
  | zero =>
    intro s a5 a6 a7 a8 a9 c f b5 b6 b7 b8 b9 i0 i1 i2 i3 i4 i5 i6 hm
    have u18 := CI_b c (k := 309) (j := 20) bd_309_20
    have u19 := CI_b c (k := 309) (j := 36) bd_309_36
    have u20 := CI_b c (k := 309) (j := 43) bd_309_43
    have u21 := CI_b c (k := 309) (j := 44) bd_309_44
    have u22 := CI_b c (k := 309) (j := 58) bd_309_58
    have u23 := CI_b c (k := 316) (j := 0) bd_316_0
    have u24 := CI_b c (k := 329) (j := 0) bd_329_0
    have u25 := CI_b c (k := 329) (j := 1) bd_329_1
    exfalso; omega
  | succ F ih =>
    intro s a5 a6 a7 a8 a9 c f b5 b6 b7 b8 b9 i0 i1 i2 i3 i4 i5 i6 hm
    refine T_of (fX12_cut_L125.eq_2 ..) ?_
    have u1 := CI_b c (k := 309) (j := 20) bd_309_20
    have u2 := CI_b c (k := 309) (j := 36) bd_309_36
    have u3 := CI_b c (k := 309) (j := 43) bd_309_43
    have u4 := CI_b c (k := 309) (j := 44) bd_309_44
    have u5 := CI_b c (k := 309) (j := 58) bd_309_58
    have u6 := CI_b c (k := 316) (j := 0) bd_316_0
    have u7 := CI_b c (k := 329) (j := 0) bd_329_0
    have u8 := CI_b c (k := 329) (j := 1) bd_329_1
    have t9 : s 309 43 = r0 309 43 := f 309 43 (by decide)
    have t10 : s 309 44 = r0 309 44 := f 309 44 (by decide)
    have t11 : s 309 58 = r0 309 58 := f 309 58 (by decide)
    refine T_if1 (by decide +kernel) ?_
    refine T_let 315 (by decide +kernel) ?_
    refine T_if1 (z_ixl (n := 14) (by decide +kernel) (by omega) (by omega)) ?_
    refine T_let 316 (by decide +kernel) ?_
    refine T_if1 (z_ixl (n := 3) (by decide +kernel) (by omega) (by omega)) ?_
    refine T_leq (fun x12 e13 => ?_)
    have u14 := CI_b c (k := 316) (j := 0) bd_316_0
    refine T_ite (fun h15 => ?_) (fun h15 => ?_)
    · exact hk s a5 a6 c f (by omega) (by omega) (by omega) (by first | exact y_D.cg i3 (by omega) | exact y_D.z (by omega) | exact y_D.ex i3 (by omega) (by omega)) i4 (by first | exact i5 | exact y_K.b0 (by omega) | exact y_K.k0 (by omega) | exact y_K.bk (by omega))
    · refine T_ite (fun h16 => ?_) (fun h16 => ?_)
      · exact sj_X12_cut_309_J154 hfu r0 s c f a3 a4 a5 a6 a7 a8 a9 (by omega) (by omega) (by omega) (by omega) (by omega) (by omega) (by omega) (by omega) (by omega) (by omega) (by first | exact y_D.cg i3 (by omega) | exact y_D.z (by omega) | exact y_D.ex i3 (by omega) (by omega)) i4 (by first | exact i5 | exact y_K.b0 (by omega) | exact y_K.k0 (by omega) | exact y_K.bk (by omega)) (by omega) (2147483647 - a9) (by omega) (fun s' v5 v6 v7 v8 v9 c' f' w5 w6 w7 w8 w9 z0 z1 z2 z3 z4 z5 z6 pg => ih s' v5 v6 v7 v8 v9 c' f' w5 w6 w7 w8 w9 z0 z1 z2 z3 z4 z5 z6 (by omega)) hk
      · refine T_ite (fun h17 => ?_) (fun h17 => ?_)
        · exact sj_X12_cut_309_J154 hfu r0 s c f a3 a4 a5 a6 a7 a8 a9 (by omega) (by omega) (by omega) (by omega) (by omega) (by omega) (by omega) (by omega) (by omega) (by omega) (by first | exact y_D.cg i3 (by omega) | exact y_D.z (by omega) | exact y_D.ex i3 (by omega) (by omega)) i4 (by first | exact i5 | exact y_K.b0 (by omega) | exact y_K.k0 (by omega) | exact y_K.bk (by omega)) (by omega) (2147483647 - a9) (by omega) (fun s' v5 v6 v7 v8 v9 c' f' w5 w6 w7 w8 w9 z0 z1 z2 z3 z4 z5 z6 pg => ih s' v5 v6 v7 v8 v9 c' f' w5 w6 w7 w8 w9 z0 z1 z2 z3 z4 z5 z6 (by omega)) hk
        · exact sj_X12_cut_309_J369 hfu r0 s c f a3 a4 a5 a6 a7 a8 a9 (by omega) (by omega) (by omega) (by omega) (by omega) (by omega) (by omega) (by omega) (by omega) (by omega) (by first | exact y_D.cg i3 (by omega) | exact y_D.z (by omega) | exact y_D.ex i3 (by omega) (by omega)) i4 (by first | exact i5 | exact y_K.b0 (by omega) | exact y_K.k0 (by omega) | exact y_K.bk (by omega)) (by omega) (2147483647 - a9) (by omega) (fun s' v5 v6 v7 v8 v9 c' f' w5 w6 w7 w8 w9 z0 z1 z2 z3 z4 z5 z6 pg => ih s' v5 v6 v7 v8 v9 c' f' w5 w6 w7 w8 w9 z0 z1 z2 z3 z4 z5 z6 (by omega)) hk
theorem rs_X12_stands_309__X12_cut_309 (a b : Int) (h : R_X12_stands_309 a b) : R_X12_cut_309 a b := (h.elim (fun h => (Or.inr (Or.inl (⟨by omega, by omega⟩)))) (fun h => (h.elim (fun h => (Or.inr (Or.inr (Or.inl (⟨by omega, by omega⟩))))) (fun h => (Or.inr (Or.inr (Or.inr (Or.inr (⟨h.1, by omega⟩)))))))))
set_option maxHeartbeats 4000000 in
theorem sj_X12_cut_309_J46 {fu : Nat} (hfu : 8589934592 ≤ fu) (r0 s : z_M) (c : z_CI s) (f : z_Fr R_X12_cut_309 r0 s) (a1 : Int) (a2 : Int) (t1 : Int) (b1 : -2147483648 ≤ a1 ∧ a1 ≤ 2147483647) (b2 : -2147483648 ≤ a2 ∧ a2 ≤ 2147483647) (d1 : 0 ≤ t1 ∧ t1 ≤ 1) (p0 : y_TA s) (p1 : y_DD s) (p2 : y_B s) (p3 : y_K s) (p4 : 0 ≤ a1 ∧ a1 < s 309 20 ∧ 0 ≤ a2 ∧ a2 < s 309 20) (p5 : t1 = 1 ∨ a1 ≤ a2) : z_T (fX12_cut_J46 fu s 309 a1 a2 309 t1) (P_X12_cut_309 r0) := by
  refine T_of (fX12_cut_J46.eq_1 ..) ?_
  have u1 := CI_b c (k := 309) (j := 20) bd_309_20
  have u2 := CI_b c (k := 309) (j := 36) bd_309_36
  have u3 := CI_b c (k := 309) (j := 43) bd_309_43
  have u4 := CI_b c (k := 309) (j := 44) bd_309_44
  have u5 := CI_b c (k := 309) (j := 58) bd_309_58
  have u6 := CI_b c (k := 316) (j := 0) bd_316_0
  have u7 := CI_b c (k := 329) (j := 0) bd_329_0
  have u8 := CI_b c (k := 329) (j := 1) bd_329_1
  have t9 : s 309 43 = r0 309 43 := f 309 43 (by decide)
  have t10 : s 309 44 = r0 309 44 := f 309 44 (by decide)
  have t11 : s 309 58 = r0 309 58 := f 309 58 (by decide)
  refine T_if1 (by decide +kernel) ?_
  refine T_useI (sf_X12_bad_309 hfu s c t1 2 1 (by omega) (by omega) (by omega) (by omega)) (fun v17 s12 hq => ?_)
  obtain ⟨c13, f14, o18, ⟨x16, rfl, b19, b20, o21, o22⟩⟩ := hq
  refine T_vI ?_
  have f15 := z_Fr.tr (R := R_X12_cut_309) f f14 rs_X12_bad_309__X12_cut_309
  have t23 : s12 309 20 = s 309 20 := f14 309 20 (by decide)
  have t24 : s12 309 36 = s 309 36 := f14 309 36 (by decide)
  have t25 : s12 309 43 = s 309 43 := f14 309 43 (by decide)
  have t26 : s12 309 44 = s 309 44 := f14 309 44 (by decide)
  have t27 : s12 309 58 = s 309 58 := f14 309 58 (by decide)
  have t28 : s12 316 0 = s 316 0 := f14 316 0 (by decide)
  have t29 : s12 329 0 = s 329 0 := f14 329 0 (by decide)
  have t30 : s12 329 1 = s 329 1 := f14 329 1 (by decide)
  have r31 := y_TA.fr p0 (fun a b h => f14 a b (nq_X12_bad_309__316 a b h)) (fun a b h => f14 a b (nq_X12_bad_309__346 a b h)) (fun a b h => f14 a b (nq_X12_bad_309__361 a b h))
  have r32 := y_DD.fr p1 (f14 329 0 (by decide)) (f14 329 1 (by decide)) (fun b => f14 359 b (nr_X12_bad_309__359 b)) (fun b => f14 374 b (nr_X12_bad_309__374 b))
  have r33 := y_B.fr p2 (f14 309 20 (by decide)) (f14 316 0 (by decide)) (fun b => f14 3220 b (nr_X12_bad_309__3220 b)) (fun b => f14 3221 b (nr_X12_bad_309__3221 b)) (fun b => f14 3222 b (nr_X12_bad_309__3222 b)) (fun b => f14 361 b (nr_X12_bad_309__361 b))
  have r34 := y_K.fr p3 (by omega) (by omega) (f14 309 44 (by decide)) (f14 309 20 (by decide)) (f14 309 58 (by decide)) (fun b => f14 3438 b (nr_X12_bad_309__3438 b)) (fun b => f14 3220 b (nr_X12_bad_309__3220 b)) (fun a b h => f14 a b (nq_X12_bad_309__3452 a b h))
  refine T_ite (fun h35 => ?_) (fun h35 => ?_)
  · refine T_if1 (by decide +kernel) ?_
    refine T_useN (sf_X12_copies_309 hfu s12 c13 0 13 (by omega) (by omega) (by omega)) (fun v41 s36 hq => ?_)
    obtain ⟨c37, f38, o42, rfl⟩ := hq
    refine T_vN ?_
    have f39 := z_Fr.tr (R := R_X12_cut_309) f15 f38 rs_X12_copies_309__X12_cut_309
    have t45 : s36 309 20 = s 309 20 := (f38 309 20 (by decide)).trans t23
    have t46 : s36 309 36 = s 309 36 := (f38 309 36 (by decide)).trans t24
    have t47 : s36 309 43 = s 309 43 := (f38 309 43 (by decide)).trans t25
    have t48 : s36 309 44 = s 309 44 := (f38 309 44 (by decide)).trans t26
    have t49 : s36 309 58 = s 309 58 := (f38 309 58 (by decide)).trans t27
    have u50 := CI_b c37 (k := 316) (j := 0) bd_316_0
    have u51 := CI_b c37 (k := 329) (j := 0) bd_329_0
    have u52 := CI_b c37 (k := 329) (j := 1) bd_329_1
    have r53 := y_K.fr r34 (by omega) (by omega) (f38 309 44 (by decide)) (f38 309 20 (by decide)) (f38 309 58 (by decide)) (fun b => f38 3438 b (nr_X12_copies_309__3438 b)) (fun b => f38 3220 b (nr_X12_copies_309__3220 b)) (fun a b h => f38 a b (nq_X12_copies_309__3452 a b h))
    have r54 := y_CP.TA o42 c13 (by omega) r31
    clear t23
    clear t24
    clear t25
    clear t26
    clear t27
    refine T_if1 (by decide +kernel) ?_
    refine T_let 3221 (by decide +kernel) ?_
    refine T_if1 (z_ixl (n := 200) (by decide +kernel) (by omega) (by omega)) ?_
    refine T_leq (fun x55 e56 => ?_)
    have u57 := CI_b c37 (k := 3221) (j := a1) (bdr_3221 a1)
    refine T_if1 (by decide +kernel) ?_
    refine T_let 3221 (by decide +kernel) ?_
    refine T_if1 (z_ixl (n := 200) (by decide +kernel) (by omega) (by omega)) ?_
    refine T_leq (fun x58 e59 => ?_)
    have u60 := CI_b c37 (k := 3221) (j := a2) (bdr_3221 a2)
    refine T_if1 (by decide +kernel) ?_
    refine T_let 3222 (by decide +kernel) ?_
    refine T_if1 (z_ixl (n := 200) (by decide +kernel) (by omega) (by omega)) ?_
    refine T_leq (fun x61 e62 => ?_)
    have u63 := CI_b c37 (k := 3222) (j := a2) (bdr_3222 a2)
    refine T_leq (fun x64 e65 => ?_)
    first | (have w66 := z_wx e65 (by omega)) | (have w66 := z_wr e65)
    refine sl_X12_cut_309_L100 hfu r0 x55 x64 0 0 (-1) (-1) (by omega) (by omega) (by omega) (by omega) (by omega) (by omega) (fun s67 c68 f69 g70 g71 => ?_) fu s36 0 c37 f39 (by omega) r54 (by first | exact r53 | exact y_K.b0 (by omega) | exact y_K.k0 (by omega) | exact y_K.bk (by omega)) (by omega)
    have u72 := CI_b c68 (k := 309) (j := 20) bd_309_20
    have u73 := CI_b c68 (k := 309) (j := 36) bd_309_36
    have u74 := CI_b c68 (k := 309) (j := 43) bd_309_43
    have u75 := CI_b c68 (k := 309) (j := 44) bd_309_44
    have u76 := CI_b c68 (k := 309) (j := 58) bd_309_58
    have u77 := CI_b c68 (k := 316) (j := 0) bd_316_0
    have u78 := CI_b c68 (k := 329) (j := 0) bd_329_0
    have u79 := CI_b c68 (k := 329) (j := 1) bd_329_1
    have t80 : s67 309 43 = r0 309 43 := f69 309 43 (by decide)
    have t81 : s67 309 44 = r0 309 44 := f69 309 44 (by decide)
    have t82 : s67 309 58 = r0 309 58 := f69 309 58 (by decide)
    refine sl_X12_cut_309_L125 hfu r0 x55 x64 (by omega) (by omega) (fun s83 y86 y87 c84 f85 b88 b89 g90 g91 g92 g93 => ?_) fu s67 0 0 (-1) (-1) 0 c68 f69 (by omega) (by omega) (by omega) (by omega) (by omega) (by omega) (by omega) (by omega) (by first | exact y_D.z (by omega)) g70 (by first | exact g71 | exact y_K.b0 (by omega) | exact y_K.k0 (by omega) | exact y_K.bk (by omega)) (by omega) (by omega)
    have u94 := CI_b c84 (k := 309) (j := 20) bd_309_20
    have u95 := CI_b c84 (k := 309) (j := 36) bd_309_36
    have u96 := CI_b c84 (k := 309) (j := 43) bd_309_43
    have u97 := CI_b c84 (k := 309) (j := 44) bd_309_44
    have u98 := CI_b c84 (k := 309) (j := 58) bd_309_58
    have u99 := CI_b c84 (k := 316) (j := 0) bd_316_0
    have u100 := CI_b c84 (k := 329) (j := 0) bd_329_0
    have u101 := CI_b c84 (k := 329) (j := 1) bd_329_1
    have t102 : s83 309 43 = r0 309 43 := f85 309 43 (by decide)
    have t103 : s83 309 44 = r0 309 44 := f85 309 44 (by decide)
    have t104 : s83 309 58 = r0 309 58 := f85 309 58 (by decide)
    refine T_if1 (by decide +kernel) ?_
    refine T_let 315 (by decide +kernel) ?_
    refine T_if1 (z_ixl (n := 14) (by decide +kernel) (by omega) (by omega)) ?_
    refine T_let 329 (by decide +kernel) ?_
    refine T_if1 (z_ixl (n := 3) (by decide +kernel) (by omega) (by omega)) ?_
    refine T_upg c84 bd_329_0 (by omega) (fun s105 c106 g108 g109 e110 => ?_)
    have f107 := z_Fr.up (R := R_X12_cut_309) f85 g108 (fun _ => (Or.inr (Or.inl (⟨by decide, by decide⟩))))
    have t111 : s105 309 20 = s83 309 20 := g108 309 20 (by decide)
    have t112 : s105 309 36 = s83 309 36 := g108 309 36 (by decide)
    have t113 : s105 309 43 = s83 309 43 := g108 309 43 (by decide)
    have t114 : s105 309 44 = s83 309 44 := g108 309 44 (by decide)
    have t115 : s105 309 58 = s83 309 58 := g108 309 58 (by decide)
    have t116 : s105 316 0 = s83 316 0 := g108 316 0 (by decide)
    have t117 : s105 329 1 = s83 329 1 := g109 1 (by decide)
    have u118 := CI_b c106 (k := 329) (j := 0) bd_329_0
    have r119 := y_D.fr g91 (fun b => g108 359 b (by decide)) (fun b => g108 374 b (by decide))
    have r120 := y_TA.fr g92 (fun a b h => g108 a b (by omega)) (fun a b h => g108 a b (by omega)) (fun a b h => g108 a b (by omega))
    have r121 := y_K.fr g93 (by omega) (by omega) (g108 309 44 (by decide)) (g108 309 20 (by decide)) (g108 309 58 (by decide)) (fun b => g108 3438 b (by decide)) (fun b => g108 3220 b (by decide)) (fun a b h => g108 a b (by omega))
    refine T_if1 (by decide +kernel) ?_
    refine T_let 315 (by decide +kernel) ?_
    refine T_if1 (z_ixl (n := 14) (by decide +kernel) (by omega) (by omega)) ?_
    refine T_let 329 (by decide +kernel) ?_
    refine T_if1 (z_ixl (n := 3) (by decide +kernel) (by omega) (by omega)) ?_
    refine T_upg c106 bd_329_1 (by omega) (fun s122 c123 g125 g126 e127 => ?_)
    have f124 := z_Fr.up (R := R_X12_cut_309) f107 g125 (fun _ => (Or.inr (Or.inl (⟨by decide, by decide⟩))))
    have t128 : s122 309 20 = s83 309 20 := (g125 309 20 (by decide)).trans t111
    have t129 : s122 309 36 = s83 309 36 := (g125 309 36 (by decide)).trans t112
    have t130 : s122 309 43 = s83 309 43 := (g125 309 43 (by decide)).trans t113
    have t131 : s122 309 44 = s83 309 44 := (g125 309 44 (by decide)).trans t114
    have t132 : s122 309 58 = s83 309 58 := (g125 309 58 (by decide)).trans t115
    have t133 : s122 316 0 = s83 316 0 := (g125 316 0 (by decide)).trans t116
    have t134 : s122 329 0 = s105 329 0 := g126 0 (by decide)
    have u135 := CI_b c123 (k := 329) (j := 1) bd_329_1
    have r136 := y_D.fr r119 (fun b => g125 359 b (by decide)) (fun b => g125 374 b (by decide))
    have r137 := y_TA.fr r120 (fun a b h => g125 a b (by omega)) (fun a b h => g125 a b (by omega)) (fun a b h => g125 a b (by omega))
    have r138 := y_K.fr r121 (by omega) (by omega) (g125 309 44 (by decide)) (g125 309 20 (by decide)) (g125 309 58 (by decide)) (fun b => g125 3438 b (by decide)) (fun b => g125 3220 b (by decide)) (fun a b h => g125 a b (by omega))
    clear t111
    clear t112
    clear t113
    clear t114
    clear t115
    clear t116
    refine T_if1 (by decide +kernel) ?_
    refine T_useN (sf_X12_stands_309 hfu s122 c123 r137 (by first | exact ⟨by omega, y_D.cg r136 (by omega)⟩ | exact y_DD.z (by omega) (by omega))) (fun v144 s139 hq => ?_)
    obtain ⟨c140, f141, o145, o146, o147, o148, rfl⟩ := hq
    refine T_vN ?_
    have f142 := z_Fr.tr (R := R_X12_cut_309) f124 f141 rs_X12_stands_309__X12_cut_309
    have t151 : s139 309 43 = s83 309 43 := (f141 309 43 (by decide)).trans t130
    have t152 : s139 309 44 = s83 309 44 := (f141 309 44 (by decide)).trans t131
    have t153 : s139 309 58 = s83 309 58 := (f141 309 58 (by decide)).trans t132
    have u154 := CI_b c140 (k := 309) (j := 20) bd_309_20
    have u155 := CI_b c140 (k := 309) (j := 36) bd_309_36
    have u156 := CI_b c140 (k := 316) (j := 0) bd_316_0
    have u157 := CI_b c140 (k := 329) (j := 0) bd_329_0
    have u158 := CI_b c140 (k := 329) (j := 1) bd_329_1
    clear t130
    clear t131
    clear t132
    refine T_if1 (by decide +kernel) ?_
    refine T_leq (fun x159 e160 => ?_)
    have u161 := CI_b c140 (k := 309) (j := 20) bd_309_20
    exact T_ret ⟨c140, f142, o145, (by first | exact o146 | exact y_DD.z (by omega) (by omega)), o147, (by first | exact y_K.b0 (by omega) | exact y_K.k0 (by omega) | exact y_K.bk (by omega)), ⟨x159, rfl, by omega, by omega⟩⟩
  · exact sj_X12_cut_309_J54 hfu r0 s12 c13 f15 r31 (by first | exact r32 | exact y_DD.z (by omega) (by omega)) r33 (by first | exact r34 | exact y_K.b0 (by omega) | exact y_K.k0 (by omega) | exact y_K.bk (by omega))
theorem sj_X12_cut_309_J27 {fu : Nat} (hfu : 8589934592 ≤ fu) (r0 s : z_M) (c : z_CI s) (f : z_Fr R_X12_cut_309 r0 s) (a1 : Int) (a2 : Int) (t1 : Int) (b1 : -2147483648 ≤ a1 ∧ a1 ≤ 2147483647) (b2 : -2147483648 ≤ a2 ∧ a2 ≤ 2147483647) (d1 : 0 ≤ t1 ∧ t1 ≤ 1) (p0 : y_TA s) (p1 : y_DD s) (p2 : y_B s) (p3 : y_K s) (p4 : t1 = 1 ∨ (0 ≤ a1 ∧ a1 < s 309 20 ∧ 0 ≤ a2 ∧ a2 < s 309 20)) : z_T (fX12_cut_J27 fu s 309 a1 a2 309 t1) (P_X12_cut_309 r0) := by
  refine T_of (fX12_cut_J27.eq_1 ..) ?_
  have u1 := CI_b c (k := 309) (j := 20) bd_309_20
  have u2 := CI_b c (k := 309) (j := 36) bd_309_36
  have u3 := CI_b c (k := 309) (j := 43) bd_309_43
  have u4 := CI_b c (k := 309) (j := 44) bd_309_44
  have u5 := CI_b c (k := 309) (j := 58) bd_309_58
  have u6 := CI_b c (k := 316) (j := 0) bd_316_0
  have u7 := CI_b c (k := 329) (j := 0) bd_329_0
  have u8 := CI_b c (k := 329) (j := 1) bd_329_1
  have t9 : s 309 43 = r0 309 43 := f 309 43 (by decide)
  have t10 : s 309 44 = r0 309 44 := f 309 44 (by decide)
  have t11 : s 309 58 = r0 309 58 := f 309 58 (by decide)
  refine T_if1 (by decide +kernel) ?_
  refine T_useI (sf_X12_bad_309 hfu s c t1 1 0 (by omega) (by omega) (by omega) (by omega)) (fun v17 s12 hq => ?_)
  obtain ⟨c13, f14, o18, ⟨x16, rfl, b19, b20, o21, o22⟩⟩ := hq
  refine T_vI ?_
  have f15 := z_Fr.tr (R := R_X12_cut_309) f f14 rs_X12_bad_309__X12_cut_309
  have t23 : s12 309 20 = s 309 20 := f14 309 20 (by decide)
  have t24 : s12 309 36 = s 309 36 := f14 309 36 (by decide)
  have t25 : s12 309 43 = s 309 43 := f14 309 43 (by decide)
  have t26 : s12 309 44 = s 309 44 := f14 309 44 (by decide)
  have t27 : s12 309 58 = s 309 58 := f14 309 58 (by decide)
  have t28 : s12 316 0 = s 316 0 := f14 316 0 (by decide)
  have t29 : s12 329 0 = s 329 0 := f14 329 0 (by decide)
  have t30 : s12 329 1 = s 329 1 := f14 329 1 (by decide)
  have r31 := y_TA.fr p0 (fun a b h => f14 a b (nq_X12_bad_309__316 a b h)) (fun a b h => f14 a b (nq_X12_bad_309__346 a b h)) (fun a b h => f14 a b (nq_X12_bad_309__361 a b h))
  have r32 := y_DD.fr p1 (f14 329 0 (by decide)) (f14 329 1 (by decide)) (fun b => f14 359 b (nr_X12_bad_309__359 b)) (fun b => f14 374 b (nr_X12_bad_309__374 b))
  have r33 := y_B.fr p2 (f14 309 20 (by decide)) (f14 316 0 (by decide)) (fun b => f14 3220 b (nr_X12_bad_309__3220 b)) (fun b => f14 3221 b (nr_X12_bad_309__3221 b)) (fun b => f14 3222 b (nr_X12_bad_309__3222 b)) (fun b => f14 361 b (nr_X12_bad_309__361 b))
  have r34 := y_K.fr p3 (by omega) (by omega) (f14 309 44 (by decide)) (f14 309 20 (by decide)) (f14 309 58 (by decide)) (fun b => f14 3438 b (nr_X12_bad_309__3438 b)) (fun b => f14 3220 b (nr_X12_bad_309__3220 b)) (fun a b h => f14 a b (nq_X12_bad_309__3452 a b h))
  refine T_ite (fun h35 => ?_) (fun h35 => ?_)
  · exact sj_X12_cut_309_J54 hfu r0 s12 c13 f15 r31 (by first | exact r32 | exact y_DD.z (by omega) (by omega)) r33 (by first | exact r34 | exact y_K.b0 (by omega) | exact y_K.k0 (by omega) | exact y_K.bk (by omega))
  · refine T_ite (fun h36 => ?_) (fun h36 => ?_)
    · exact sj_X12_cut_309_J46 hfu r0 s12 c13 f15 a1 a2 0 (by omega) (by omega) (by omega) r31 (by first | exact r32 | exact y_DD.z (by omega) (by omega)) r33 (by first | exact r34 | exact y_K.b0 (by omega) | exact y_K.k0 (by omega) | exact y_K.bk (by omega)) (by omega) (by omega)
    · exact sj_X12_cut_309_J46 hfu r0 s12 c13 f15 a1 a2 1 (by omega) (by omega) (by omega) r31 (by first | exact r32 | exact y_DD.z (by omega) (by omega)) r33 (by first | exact r34 | exact y_K.b0 (by omega) | exact y_K.k0 (by omega) | exact y_K.bk (by omega)) (by omega) (by omega)
theorem sj_X12_cut_309_J22 {fu : Nat} (hfu : 8589934592 ≤ fu) (r0 s : z_M) (c : z_CI s) (f : z_Fr R_X12_cut_309 r0 s) (a1 : Int) (a2 : Int) (b1 : -2147483648 ≤ a1 ∧ a1 ≤ 2147483647) (b2 : -2147483648 ≤ a2 ∧ a2 ≤ 2147483647) (p0 : y_TA s) (p1 : y_DD s) (p2 : y_B s) (p3 : y_K s) : z_T (fX12_cut_J22 fu s 309 a1 a2 309) (P_X12_cut_309 r0) := by
  refine T_of (fX12_cut_J22.eq_1 ..) ?_
  have u1 := CI_b c (k := 309) (j := 20) bd_309_20
  have u2 := CI_b c (k := 309) (j := 36) bd_309_36
  have u3 := CI_b c (k := 309) (j := 43) bd_309_43
  have u4 := CI_b c (k := 309) (j := 44) bd_309_44
  have u5 := CI_b c (k := 309) (j := 58) bd_309_58
  have u6 := CI_b c (k := 316) (j := 0) bd_316_0
  have u7 := CI_b c (k := 329) (j := 0) bd_329_0
  have u8 := CI_b c (k := 329) (j := 1) bd_329_1
  have t9 : s 309 43 = r0 309 43 := f 309 43 (by decide)
  have t10 : s 309 44 = r0 309 44 := f 309 44 (by decide)
  have t11 : s 309 58 = r0 309 58 := f 309 58 (by decide)
  exact sj_X12_cut_309_J27 hfu r0 s c f a1 a2 1 (by omega) (by omega) (by omega) p0 (by first | exact p1 | exact y_DD.z (by omega) (by omega)) p2 (by first | exact p3 | exact y_K.b0 (by omega) | exact y_K.k0 (by omega) | exact y_K.bk (by omega)) (by omega)
theorem sf_X12_cut_309 {fu : Nat} (hfu : 8589934592 ≤ fu) (r0 : z_M) (c0 : z_CI r0) (a1 : Int) (a2 : Int) (b1 : -2147483648 ≤ a1 ∧ a1 ≤ 2147483647) (b2 : -2147483648 ≤ a2 ∧ a2 ≤ 2147483647) (p0 : y_TA r0) (p1 : y_DD r0) (p2 : y_B r0) (p3 : y_K r0) : z_T (fX12_cut fu r0 309 a1 a2) (P_X12_cut_309 r0) := by
  refine T_of (fX12_cut.eq_1 ..) ?_
  have u1 := CI_b c0 (k := 309) (j := 20) bd_309_20
  have u2 := CI_b c0 (k := 309) (j := 36) bd_309_36
  have u3 := CI_b c0 (k := 309) (j := 43) bd_309_43
  have u4 := CI_b c0 (k := 309) (j := 44) bd_309_44
  have u5 := CI_b c0 (k := 309) (j := 58) bd_309_58
  have u6 := CI_b c0 (k := 316) (j := 0) bd_316_0
  have u7 := CI_b c0 (k := 329) (j := 0) bd_329_0
  have u8 := CI_b c0 (k := 329) (j := 1) bd_329_1
  refine T_if1 (by decide +kernel) ?_
  refine T_upg c0 bd_309_0 (by omega) (fun s9 c10 g12 g13 e14 => ?_)
  have f11 := z_Fr.upf (R := R_X12_cut_309) z_Fr.rf g12 g13 (Or.inr (Or.inr (Or.inr (Or.inr (⟨rfl, by decide⟩)))))
  have t15 : s9 309 20 = r0 309 20 := g13 20 (by decide)
  have t16 : s9 309 36 = r0 309 36 := g13 36 (by decide)
  have t17 : s9 309 43 = r0 309 43 := g13 43 (by decide)
  have t18 : s9 309 44 = r0 309 44 := g13 44 (by decide)
  have t19 : s9 309 58 = r0 309 58 := g13 58 (by decide)
  have t20 : s9 316 0 = r0 316 0 := g12 316 0 (by decide)
  have t21 : s9 329 0 = r0 329 0 := g12 329 0 (by decide)
  have t22 : s9 329 1 = r0 329 1 := g12 329 1 (by decide)
  have r23 := y_TA.fr p0 (fun a b h => g12 a b (by omega)) (fun a b h => g12 a b (by omega)) (fun a b h => g12 a b (by omega))
  have r24 := y_DD.fr p1 (g12 329 0 (by decide)) (g12 329 1 (by decide)) (fun b => g12 359 b (by decide)) (fun b => g12 374 b (by decide))
  have r25 := y_B.fr p2 (g13 20 (by decide)) (g12 316 0 (by decide)) (fun b => g12 3220 b (by decide)) (fun b => g12 3221 b (by decide)) (fun b => g12 3222 b (by decide)) (fun b => g12 361 b (by decide))
  have r26 := y_K.fr p3 (by omega) (by omega) (g13 44 (by decide)) (g13 20 (by decide)) (g13 58 (by decide)) (fun b => g12 3438 b (by decide)) (fun b => g12 3220 b (by decide)) (fun a b h => g12 a b (by omega))
  refine T_if1 (by decide +kernel) ?_
  refine T_useI (sf_X12_isUnit_309 hfu s9 c10 a1 (by omega)) (fun v32 s27 hq => ?_)
  obtain ⟨c28, f29, ⟨x31, rfl, b33, b34, o35⟩⟩ := hq
  refine T_vI ?_
  have q36 := z_Fr.eq (fun a b h => h) f29
  subst q36
  refine T_ite (fun h37 => ?_) (fun h37 => ?_)
  · exact sj_X12_cut_309_J22 hfu r0 s9 c10 f11 a1 a2 (by omega) (by omega) r23 (by first | exact r24 | exact y_DD.z (by omega) (by omega)) r25 (by first | exact r26 | exact y_K.b0 (by omega) | exact y_K.k0 (by omega) | exact y_K.bk (by omega))
  · refine T_if1 (by decide +kernel) ?_
    refine T_useI (sf_X12_isUnit_309 hfu s9 c10 a2 (by omega)) (fun v43 s38 hq => ?_)
    obtain ⟨c39, f40, ⟨x42, rfl, b44, b45, o46⟩⟩ := hq
    refine T_vI ?_
    have q47 := z_Fr.eq (fun a b h => h) f40
    subst q47
    refine T_ite (fun h48 => ?_) (fun h48 => ?_)
    · exact sj_X12_cut_309_J27 hfu r0 s9 c10 f11 a1 a2 0 (by omega) (by omega) (by omega) r23 (by first | exact r24 | exact y_DD.z (by omega) (by omega)) r25 (by first | exact r26 | exact y_K.b0 (by omega) | exact y_K.k0 (by omega) | exact y_K.bk (by omega)) (by omega)
    · exact sj_X12_cut_309_J22 hfu r0 s9 c10 f11 a1 a2 (by omega) (by omega) r23 (by first | exact r24 | exact y_DD.z (by omega) (by omega)) r25 (by first | exact r26 | exact y_K.b0 (by omega) | exact y_K.k0 (by omega) | exact y_K.bk (by omega))
abbrev R_X12_group_309 (a b : Int) : Prop := False
abbrev P_X12_group_309 (r0 : z_M) (a1 : Int) : z_V → z_M → Prop := fun v s' => z_CI s' ∧ z_Fr R_X12_group_309 r0 s' ∧ (∃ x, v = vI x ∧ -2147483648 ≤ x ∧ x ≤ 2147483647 ∧ (x = y_gp r0 a1) ∧ (x = -1 ∨ r0 3220 a1 = 7) ∧ (r0 3220 a1 ≠ 7 ∨ 0 ≤ x))
theorem sj_X12_group_309_J35 {fu : Nat} (hfu : 8589934592 ≤ fu) (r0 s : z_M) (c : z_CI s) (f : z_Fr R_X12_group_309 r0 s) (t0 : Int) (a1 : Int) (d0 : -2147483648 ≤ t0 ∧ t0 ≤ 2147483647) (p0 : t0 = y_gp r0 a1) (p1 : t0 = -1 ∨ r0 3220 a1 = 7) (p2 : r0 3220 a1 ≠ 7 ∨ 0 ≤ t0) : z_T (fX12_group_J35 fu s t0) (P_X12_group_309 r0 a1) := by
  have qf := z_Fr.eq (fun a b h => h) f
  subst qf
  refine T_of (fX12_group_J35.eq_1 ..) ?_
  have u1 := CI_b c (k := 309) (j := 20) bd_309_20
  have u2 := CI_b c (k := 316) (j := 0) bd_316_0
  have t3 : r0 309 20 = r0 309 20 := f 309 20 (by exact not_false)
  have t4 : r0 316 0 = r0 316 0 := f 316 0 (by exact not_false)
  exact T_ret ⟨c, f, ⟨t0, rfl, by omega, by omega, (by first | assumption | exact y_gp_no (by omega) | exact y_gp_mk (by omega) (by assumption) (by assumption) (by assumption)), (by omega), (by omega)⟩⟩
theorem sf_X12_group_309 {fu : Nat} (hfu : 8589934592 ≤ fu) (r0 : z_M) (c0 : z_CI r0) (a1 : Int) (b1 : 0 ≤ a1 ∧ a1 ≤ 199) (p0 : y_B r0) (p1 : a1 < r0 309 20) : z_T (fX12_group fu r0 309 a1) (P_X12_group_309 r0 a1) := by
  refine T_of (fX12_group.eq_1 ..) ?_
  have u1 := CI_b c0 (k := 309) (j := 20) bd_309_20
  have u2 := CI_b c0 (k := 316) (j := 0) bd_316_0
  refine T_if1 (by decide +kernel) ?_
  refine T_let 3220 (by decide +kernel) ?_
  refine T_if1 (z_ixl (n := 200) (by decide +kernel) (by omega) (by omega)) ?_
  refine T_leq (fun x3 e4 => ?_)
  have u5 := CI_b c0 (k := 3220) (j := a1) (bdr_3220 a1)
  refine T_ite (fun h6 => ?_) (fun h6 => ?_)
  · exact sj_X12_group_309_J35 hfu r0 r0 c0 z_Fr.rf (-1) a1 (by omega) (by first | assumption | exact y_gp_no (by omega) | exact y_gp_mk (by omega) (by assumption) (by assumption) (by assumption)) (by omega) (by omega)
  · refine T_if1 (by decide +kernel) ?_
    refine T_let 390 (by decide +kernel) ?_
    refine T_if1 (z_ixl (n := 14) (by decide +kernel) (by omega) (by omega)) ?_
    refine T_let 391 (by decide +kernel) ?_
    refine T_if1 (by decide +kernel) ?_
    refine T_let 360 (by decide +kernel) ?_
    refine T_if1 (z_ixl (n := 14) (by decide +kernel) (by omega) (by omega)) ?_
    refine T_let 361 (by decide +kernel) ?_
    refine T_if1 (by decide +kernel) ?_
    refine T_let 3221 (by decide +kernel) ?_
    refine T_if1 (z_ixl (n := 200) (by decide +kernel) (by omega) (by omega)) ?_
    refine T_leq (fun x7 e8 => ?_)
    have u9 := CI_b c0 (k := 3221) (j := a1) (bdr_3221 a1)
    refine T_if1 (z_ixl (n := 200) (by decide +kernel) (by omega) (by omega)) ?_
    refine T_leq (fun x10 e11 => ?_)
    have u12 := CI_b c0 (k := 361) (j := x7) (bdr_361 x7)
    have n13 := y_B.b7 p0 (u := a1) (y := x10) (by omega) (by omega) (by omega) (by assumption) (by assumption)
    refine T_if1 (z_ixl (n := 200) (by decide +kernel) (by omega) (by omega)) ?_
    refine T_leq (fun x14 e15 => ?_)
    have u16 := CI_b c0 (k := 391) (j := x10) (bdg (c := 391) (by omega) (by omega))
    exact sj_X12_group_309_J35 hfu r0 r0 c0 z_Fr.rf x14 a1 (by omega) (by first | assumption | exact y_gp_no (by omega) | exact y_gp_mk (by omega) (by assumption) (by assumption) (by assumption)) (by omega) (by omega)
abbrev R_X12_lettersOf_309 (a b : Int) : Prop := False
abbrev P_X12_lettersOf_309 (r0 : z_M) (a1 : Int) (a2 : Int) : z_V → z_M → Prop := fun v s' => z_CI s' ∧ z_Fr R_X12_lettersOf_309 r0 s' ∧ (∃ x, v = vI x ∧ 0 ≤ x ∧ x ≤ 9 ∧ (x = y_lt r0 a1 a2))
theorem sf_X12_lettersOf_309 {fu : Nat} (hfu : 8589934592 ≤ fu) (r0 : z_M) (c0 : z_CI r0) (a1 : Int) (a2 : Int) (b1 : 0 ≤ a1 ∧ a1 ≤ 199) (b2 : 0 ≤ a2 ∧ a2 ≤ 1) (p0 : y_B r0) (p1 : a1 < r0 309 20) (p2 : r0 3220 a1 = 7) : z_T (fX12_lettersOf fu r0 309 a1 a2) (P_X12_lettersOf_309 r0 a1 a2) := by
  refine T_of (fX12_lettersOf.eq_1 ..) ?_
  have u1 := CI_b c0 (k := 309) (j := 20) bd_309_20
  have u2 := CI_b c0 (k := 316) (j := 0) bd_316_0
  refine T_if1 (by decide +kernel) ?_
  refine T_let 405 (by decide +kernel) ?_
  refine T_if1 (z_ixl (n := 14) (by decide +kernel) (by omega) (by omega)) ?_
  refine T_let 406 (by decide +kernel) ?_
  refine T_if1 (by decide +kernel) ?_
  refine T_let 360 (by decide +kernel) ?_
  refine T_if1 (z_ixl (n := 14) (by decide +kernel) (by omega) (by omega)) ?_
  refine T_let 361 (by decide +kernel) ?_
  refine T_if1 (by decide +kernel) ?_
  refine T_let 3221 (by decide +kernel) ?_
  refine T_if1 (z_ixl (n := 200) (by decide +kernel) (by omega) (by omega)) ?_
  refine T_leq (fun x3 e4 => ?_)
  have u5 := CI_b c0 (k := 3221) (j := a1) (bdr_3221 a1)
  refine T_if1 (z_ixl (n := 200) (by decide +kernel) (by omega) (by omega)) ?_
  refine T_leq (fun x6 e7 => ?_)
  have u8 := CI_b c0 (k := 361) (j := x3) (bdr_361 x3)
  have n9 := y_B.b7 p0 (u := a1) (y := x6) (by omega) (by omega) (by omega) (by assumption) (by assumption)
  refine T_if1 (z_ixl (n := 200) (by decide +kernel) (by omega) (by omega)) ?_
  refine T_let (407 + x6) (gr_406 x6) ?_
  refine T_leq (fun x10 e11 => ?_)
  first | (have w12 := z_wx e11 (by omega)) | (have w12 := z_wr e11)
  refine T_if1 (z_ixs (sh_L0 (by omega)) (by omega) (by omega) (by omega)) ?_
  refine T_leq (fun x13 e14 => ?_)
  have u15 := CI_b c0 (k := (407 + x6)) (j := x10) (bd0x (by omega) (by omega))
  exact T_ret ⟨c0, z_Fr.rf, ⟨x13, rfl, by omega, by omega, (by first | assumption | exact y_lt_mk (by assumption) (by assumption) (by assumption) (by omega))⟩⟩
abbrev R_X12_isAcross_309 (a b : Int) : Prop := False
abbrev P_X12_isAcross_309 (r0 : z_M) : z_V → z_M → Prop := fun v s' => z_CI s' ∧ z_Fr R_X12_isAcross_309 r0 s' ∧ (∃ x, v = vI x ∧ 0 ≤ x ∧ x ≤ 1)
theorem sj_X12_isAcross_309_J40 {fu : Nat} (hfu : 8589934592 ≤ fu) (r0 s : z_M) (c : z_CI s) (f : z_Fr R_X12_isAcross_309 r0 s) (t0 : Int) (d0 : 0 ≤ t0 ∧ t0 ≤ 1) : z_T (fX12_isAcross_J40 fu s t0) (P_X12_isAcross_309 r0) := by
  have qf := z_Fr.eq (fun a b h => h) f
  subst qf
  refine T_of (fX12_isAcross_J40.eq_1 ..) ?_
  refine T_if1 (by unfold z_bl; omega) ?_
  exact T_ret ⟨c, f, ⟨t0, rfl, by omega, by omega⟩⟩
theorem sj_X12_isAcross_309_J39 {fu : Nat} (hfu : 8589934592 ≤ fu) (r0 s : z_M) (c : z_CI s) (f : z_Fr R_X12_isAcross_309 r0 s) : z_T (fX12_isAcross_J39 fu s) (P_X12_isAcross_309 r0) := by
  have qf := z_Fr.eq (fun a b h => h) f
  subst qf
  refine T_of (fX12_isAcross_J39.eq_1 ..) ?_
  exact sj_X12_isAcross_309_J40 hfu r0 r0 c f 0 (by omega)
theorem sf_X12_isAcross_309 {fu : Nat} (hfu : 8589934592 ≤ fu) (r0 : z_M) (c0 : z_CI r0) (a1 : Int) (b1 : 0 ≤ a1 ∧ a1 ≤ 199) : z_T (fX12_isAcross fu r0 309 a1) (P_X12_isAcross_309 r0) := by
  refine T_of (fX12_isAcross.eq_1 ..) ?_
  refine T_if1 (by decide +kernel) ?_
  refine T_let 3220 (by decide +kernel) ?_
  refine T_if1 (z_ixl (n := 200) (by decide +kernel) (by omega) (by omega)) ?_
  refine T_leq (fun x1 e2 => ?_)
  have u3 := CI_b c0 (k := 3220) (j := a1) (bdr_3220 a1)
  refine T_ite (fun h4 => ?_) (fun h4 => ?_)
  · exact sj_X12_isAcross_309_J39 hfu r0 r0 c0 z_Fr.rf
  · refine T_if1 (by decide +kernel) ?_
    refine T_let 312 (by decide +kernel) ?_
    refine T_if1 (z_ixl (n := 9) (by decide +kernel) (by omega) (by omega)) ?_
    refine T_leq (fun x5 e6 => ?_)
    have u7 := CI_b c0 (k := 312) (j := 5) (bdr_312 5)
    refine T_ite (fun h8 => ?_) (fun h8 => ?_)
    · exact sj_X12_isAcross_309_J39 hfu r0 r0 c0 z_Fr.rf
    · refine T_if1 (by decide +kernel) ?_
      refine T_let 3222 (by decide +kernel) ?_
      refine T_if1 (z_ixl (n := 200) (by decide +kernel) (by omega) (by omega)) ?_
      refine T_leq (fun x9 e10 => ?_)
      have u11 := CI_b c0 (k := 3222) (j := a1) (bdr_3222 a1)
      refine T_if1 (by decide +kernel) ?_
      refine T_let 312 (by decide +kernel) ?_
      refine T_if1 (z_ixl (n := 9) (by decide +kernel) (by omega) (by omega)) ?_
      refine T_leq (fun x12 e13 => ?_)
      have u14 := CI_b c0 (k := 312) (j := 1) (bdr_312 1)
      refine T_ite (fun h15 => ?_) (fun h15 => ?_)
      · exact sj_X12_isAcross_309_J39 hfu r0 r0 c0 z_Fr.rf
      · exact sj_X12_isAcross_309_J40 hfu r0 r0 c0 z_Fr.rf 1 (by omega)
