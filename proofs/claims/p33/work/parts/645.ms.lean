/-! The reference: where its arrays lie (by program, wip/tool/mkst.py) -/
theorem v_gm1 : z_gr 309 1 = 310 := by decide +kernel
theorem v_gm8 : z_gr 309 8 = 311 := by decide +kernel
theorem v_gm9 : z_gr 309 9 = 312 := by decide +kernel
theorem v_gm10 : z_gr 309 10 = 313 := by decide +kernel
theorem v_gm11 : z_gr 309 11 = 314 := by decide +kernel
theorem v_gm12 : z_gr 309 12 = 315 := by decide +kernel
theorem v_gm13 : z_gr 309 13 = 330 := by decide +kernel
theorem v_gm14 : z_gr 309 14 = 345 := by decide +kernel
theorem v_gm15 : z_gr 309 15 = 360 := by decide +kernel
theorem v_gm16 : z_gr 309 16 = 375 := by decide +kernel
theorem v_gm17 : z_gr 309 17 = 390 := by decide +kernel
theorem v_gm18 : z_gr 309 18 = 405 := by decide +kernel
theorem v_gm21 : z_gr 309 21 = 3220 := by decide +kernel
theorem v_gm22 : z_gr 309 22 = 3221 := by decide +kernel
theorem v_gm23 : z_gr 309 23 = 3222 := by decide +kernel
theorem v_gm24 : z_gr 309 24 = 3223 := by decide +kernel
theorem v_gm25 : z_gr 309 25 = 3224 := by decide +kernel
theorem v_gm26 : z_gr 309 26 = 3225 := by decide +kernel
theorem v_gm27 : z_gr 309 27 = 3226 := by decide +kernel
theorem v_gm28 : z_gr 309 28 = 3227 := by decide +kernel
theorem v_gm29 : z_gr 309 29 = 3228 := by decide +kernel
theorem v_gm30 : z_gr 309 30 = 3229 := by decide +kernel
theorem v_gm31 : z_gr 309 31 = 3230 := by decide +kernel
theorem v_gm32 : z_gr 309 32 = 3231 := by decide +kernel
theorem v_gm33 : z_gr 309 33 = 3232 := by decide +kernel
theorem v_gm34 : z_gr 309 34 = 3233 := by decide +kernel
theorem v_gm37 : z_gr 309 37 = 3234 := by decide +kernel
theorem v_gm40 : z_gr 309 40 = 3435 := by decide +kernel
theorem v_gm41 : z_gr 309 41 = 3436 := by decide +kernel
theorem v_gm42 : z_gr 309 42 = 3437 := by decide +kernel
theorem v_gm45 : z_gr 309 45 = 3438 := by decide +kernel
theorem v_gm46 : z_gr 309 46 = 3439 := by decide +kernel
theorem v_gm47 : z_gr 309 47 = 3440 := by decide +kernel
theorem v_gm48 : z_gr 309 48 = 3441 := by decide +kernel
theorem v_gm49 : z_gr 309 49 = 3442 := by decide +kernel
theorem v_gm50 : z_gr 309 50 = 3443 := by decide +kernel
theorem v_gm51 : z_gr 309 51 = 3444 := by decide +kernel
theorem v_gm52 : z_gr 309 52 = 3445 := by decide +kernel
theorem v_gm53 : z_gr 309 53 = 3446 := by decide +kernel
theorem v_gm54 : z_gr 309 54 = 3447 := by decide +kernel
theorem v_gm55 : z_gr 309 55 = 3448 := by decide +kernel
theorem v_gm56 : z_gr 309 56 = 3449 := by decide +kernel
theorem v_gm57 : z_gr 309 57 = 3450 := by decide +kernel
theorem v_gm59 : z_gr 309 59 = 3451 := by decide +kernel
theorem v_gm61 : z_gr 309 61 = 3652 := by decide +kernel
theorem v_gm62 : z_gr 309 62 = 7653 := by decide +kernel
theorem v_gm63 : z_gr 309 63 = 7654 := by decide +kernel
theorem v_gm64 : z_gr 309 64 = 7655 := by decide +kernel
theorem v_gm65 : z_gr 309 65 = 7656 := by decide +kernel
theorem v_gm66 : z_gr 309 66 = 7657 := by decide +kernel
theorem v_gz315 : z_gr 315 0 = 316 ∧ z_ix 315 103 0 := by decide +kernel
theorem v_gz330 : z_gr 330 0 = 331 ∧ z_ix 330 103 0 := by decide +kernel
theorem v_gz345 : z_gr 345 0 = 346 ∧ z_ix 345 103 0 := by decide +kernel
theorem v_gz360 : z_gr 360 0 = 361 ∧ z_ix 360 103 0 := by decide +kernel
theorem v_gz375 : z_gr 375 0 = 376 ∧ z_ix 375 103 0 := by decide +kernel
theorem v_gz390 : z_gr 390 0 = 391 ∧ z_ix 390 103 0 := by decide +kernel
theorem v_gz405 : z_gr 405 0 = 406 ∧ z_ix 405 105 0 := by decide +kernel
theorem v_x310 {i : Int} (h : 0 ≤ i ∧ i < 2) : z_ix 310 100 i := ⟨by decide +kernel, h.1, by rw [show (z_sh 310).2 = 2 by decide +kernel]; exact h.2⟩
theorem v_x312 {i : Int} (h : 0 ≤ i ∧ i < 9) : z_ix 312 100 i := ⟨by decide +kernel, h.1, by rw [show (z_sh 312).2 = 9 by decide +kernel]; exact h.2⟩
theorem v_x316 {i : Int} (h : 0 ≤ i ∧ i < 3) : z_ix 316 100 i := ⟨by decide +kernel, h.1, by rw [show (z_sh 316).2 = 3 by decide +kernel]; exact h.2⟩
theorem v_x331 {i : Int} (h : 0 ≤ i ∧ i < 200) : z_ix 331 100 i := ⟨by decide +kernel, h.1, by rw [show (z_sh 331).2 = 200 by decide +kernel]; exact h.2⟩
theorem v_x346 {i : Int} (h : 0 ≤ i ∧ i < 200) : z_ix 346 100 i := ⟨by decide +kernel, h.1, by rw [show (z_sh 346).2 = 200 by decide +kernel]; exact h.2⟩
theorem v_x361 {i : Int} (h : 0 ≤ i ∧ i < 200) : z_ix 361 100 i := ⟨by decide +kernel, h.1, by rw [show (z_sh 361).2 = 200 by decide +kernel]; exact h.2⟩
theorem v_x376 {i : Int} (h : 0 ≤ i ∧ i < 200) : z_ix 376 100 i := ⟨by decide +kernel, h.1, by rw [show (z_sh 376).2 = 200 by decide +kernel]; exact h.2⟩
theorem v_x391 {i : Int} (h : 0 ≤ i ∧ i < 200) : z_ix 391 100 i := ⟨by decide +kernel, h.1, by rw [show (z_sh 391).2 = 200 by decide +kernel]; exact h.2⟩
theorem v_x406 {i : Int} (h : 0 ≤ i ∧ i < 200) : z_ix 406 103 i := ⟨by decide +kernel, h.1, by rw [show (z_sh 406).2 = 200 by decide +kernel]; exact h.2⟩
theorem v_x3220 {i : Int} (h : 0 ≤ i ∧ i < 200) : z_ix 3220 100 i := ⟨by decide +kernel, h.1, by rw [show (z_sh 3220).2 = 200 by decide +kernel]; exact h.2⟩
theorem v_x3221 {i : Int} (h : 0 ≤ i ∧ i < 200) : z_ix 3221 100 i := ⟨by decide +kernel, h.1, by rw [show (z_sh 3221).2 = 200 by decide +kernel]; exact h.2⟩
theorem v_x3222 {i : Int} (h : 0 ≤ i ∧ i < 200) : z_ix 3222 100 i := ⟨by decide +kernel, h.1, by rw [show (z_sh 3222).2 = 200 by decide +kernel]; exact h.2⟩
theorem v_x3223 {i : Int} (h : 0 ≤ i ∧ i < 200) : z_ix 3223 100 i := ⟨by decide +kernel, h.1, by rw [show (z_sh 3223).2 = 200 by decide +kernel]; exact h.2⟩
theorem v_x3224 {i : Int} (h : 0 ≤ i ∧ i < 200) : z_ix 3224 100 i := ⟨by decide +kernel, h.1, by rw [show (z_sh 3224).2 = 200 by decide +kernel]; exact h.2⟩
theorem v_x3225 {i : Int} (h : 0 ≤ i ∧ i < 200) : z_ix 3225 100 i := ⟨by decide +kernel, h.1, by rw [show (z_sh 3225).2 = 200 by decide +kernel]; exact h.2⟩
theorem v_x3226 {i : Int} (h : 0 ≤ i ∧ i < 200) : z_ix 3226 100 i := ⟨by decide +kernel, h.1, by rw [show (z_sh 3226).2 = 200 by decide +kernel]; exact h.2⟩
theorem v_x3227 {i : Int} (h : 0 ≤ i ∧ i < 200) : z_ix 3227 100 i := ⟨by decide +kernel, h.1, by rw [show (z_sh 3227).2 = 200 by decide +kernel]; exact h.2⟩
theorem v_x3228 {i : Int} (h : 0 ≤ i ∧ i < 200) : z_ix 3228 100 i := ⟨by decide +kernel, h.1, by rw [show (z_sh 3228).2 = 200 by decide +kernel]; exact h.2⟩
theorem v_x3229 {i : Int} (h : 0 ≤ i ∧ i < 200) : z_ix 3229 100 i := ⟨by decide +kernel, h.1, by rw [show (z_sh 3229).2 = 200 by decide +kernel]; exact h.2⟩
theorem v_x3230 {i : Int} (h : 0 ≤ i ∧ i < 200) : z_ix 3230 100 i := ⟨by decide +kernel, h.1, by rw [show (z_sh 3230).2 = 200 by decide +kernel]; exact h.2⟩
theorem v_x3231 {i : Int} (h : 0 ≤ i ∧ i < 200) : z_ix 3231 100 i := ⟨by decide +kernel, h.1, by rw [show (z_sh 3231).2 = 200 by decide +kernel]; exact h.2⟩
theorem v_x3232 {i : Int} (h : 0 ≤ i ∧ i < 200) : z_ix 3232 100 i := ⟨by decide +kernel, h.1, by rw [show (z_sh 3232).2 = 200 by decide +kernel]; exact h.2⟩
theorem v_x3233 {i : Int} (h : 0 ≤ i ∧ i < 200) : z_ix 3233 100 i := ⟨by decide +kernel, h.1, by rw [show (z_sh 3233).2 = 200 by decide +kernel]; exact h.2⟩
theorem v_x3234 {i : Int} (h : 0 ≤ i ∧ i < 200) : z_ix 3234 103 i := ⟨by decide +kernel, h.1, by rw [show (z_sh 3234).2 = 200 by decide +kernel]; exact h.2⟩
theorem v_x3435 {i : Int} (h : 0 ≤ i ∧ i < 200) : z_ix 3435 100 i := ⟨by decide +kernel, h.1, by rw [show (z_sh 3435).2 = 200 by decide +kernel]; exact h.2⟩
theorem v_x3436 {i : Int} (h : 0 ≤ i ∧ i < 200) : z_ix 3436 100 i := ⟨by decide +kernel, h.1, by rw [show (z_sh 3436).2 = 200 by decide +kernel]; exact h.2⟩
theorem v_x3437 {i : Int} (h : 0 ≤ i ∧ i < 200) : z_ix 3437 102 i := ⟨by decide +kernel, h.1, by rw [show (z_sh 3437).2 = 200 by decide +kernel]; exact h.2⟩
theorem v_x3438 {i : Int} (h : 0 ≤ i ∧ i < 201) : z_ix 3438 100 i := ⟨by decide +kernel, h.1, by rw [show (z_sh 3438).2 = 201 by decide +kernel]; exact h.2⟩
theorem v_x3439 {i : Int} (h : 0 ≤ i ∧ i < 201) : z_ix 3439 101 i := ⟨by decide +kernel, h.1, by rw [show (z_sh 3439).2 = 201 by decide +kernel]; exact h.2⟩
theorem v_x3440 {i : Int} (h : 0 ≤ i ∧ i < 200) : z_ix 3440 100 i := ⟨by decide +kernel, h.1, by rw [show (z_sh 3440).2 = 200 by decide +kernel]; exact h.2⟩
theorem v_x3441 {i : Int} (h : 0 ≤ i ∧ i < 200) : z_ix 3441 100 i := ⟨by decide +kernel, h.1, by rw [show (z_sh 3441).2 = 200 by decide +kernel]; exact h.2⟩
theorem v_x3442 {i : Int} (h : 0 ≤ i ∧ i < 200) : z_ix 3442 100 i := ⟨by decide +kernel, h.1, by rw [show (z_sh 3442).2 = 200 by decide +kernel]; exact h.2⟩
theorem v_x3443 {i : Int} (h : 0 ≤ i ∧ i < 200) : z_ix 3443 100 i := ⟨by decide +kernel, h.1, by rw [show (z_sh 3443).2 = 200 by decide +kernel]; exact h.2⟩
theorem v_x3444 {i : Int} (h : 0 ≤ i ∧ i < 200) : z_ix 3444 100 i := ⟨by decide +kernel, h.1, by rw [show (z_sh 3444).2 = 200 by decide +kernel]; exact h.2⟩
theorem v_x3445 {i : Int} (h : 0 ≤ i ∧ i < 200) : z_ix 3445 100 i := ⟨by decide +kernel, h.1, by rw [show (z_sh 3445).2 = 200 by decide +kernel]; exact h.2⟩
theorem v_x3446 {i : Int} (h : 0 ≤ i ∧ i < 200) : z_ix 3446 100 i := ⟨by decide +kernel, h.1, by rw [show (z_sh 3446).2 = 200 by decide +kernel]; exact h.2⟩
theorem v_x3447 {i : Int} (h : 0 ≤ i ∧ i < 200) : z_ix 3447 100 i := ⟨by decide +kernel, h.1, by rw [show (z_sh 3447).2 = 200 by decide +kernel]; exact h.2⟩
theorem v_x3448 {i : Int} (h : 0 ≤ i ∧ i < 200) : z_ix 3448 100 i := ⟨by decide +kernel, h.1, by rw [show (z_sh 3448).2 = 200 by decide +kernel]; exact h.2⟩
theorem v_x3449 {i : Int} (h : 0 ≤ i ∧ i < 200) : z_ix 3449 100 i := ⟨by decide +kernel, h.1, by rw [show (z_sh 3449).2 = 200 by decide +kernel]; exact h.2⟩
theorem v_x3450 {i : Int} (h : 0 ≤ i ∧ i < 200) : z_ix 3450 100 i := ⟨by decide +kernel, h.1, by rw [show (z_sh 3450).2 = 200 by decide +kernel]; exact h.2⟩
theorem v_x3451 {i : Int} (h : 0 ≤ i ∧ i < 200) : z_ix 3451 103 i := ⟨by decide +kernel, h.1, by rw [show (z_sh 3451).2 = 200 by decide +kernel]; exact h.2⟩
theorem v_x3652 {i : Int} (h : 0 ≤ i ∧ i < 4000) : z_ix 3652 103 i := ⟨by decide +kernel, h.1, by rw [show (z_sh 3652).2 = 4000 by decide +kernel]; exact h.2⟩
theorem v_x7653 {i : Int} (h : 0 ≤ i ∧ i < 201) : z_ix 7653 100 i := ⟨by decide +kernel, h.1, by rw [show (z_sh 7653).2 = 201 by decide +kernel]; exact h.2⟩
theorem v_x7654 {i : Int} (h : 0 ≤ i ∧ i < 200) : z_ix 7654 100 i := ⟨by decide +kernel, h.1, by rw [show (z_sh 7654).2 = 200 by decide +kernel]; exact h.2⟩
theorem v_x7655 {i : Int} (h : 0 ≤ i ∧ i < 200) : z_ix 7655 100 i := ⟨by decide +kernel, h.1, by rw [show (z_sh 7655).2 = 200 by decide +kernel]; exact h.2⟩
theorem v_x7656 {i : Int} (h : 0 ≤ i ∧ i < 200) : z_ix 7656 100 i := ⟨by decide +kernel, h.1, by rw [show (z_sh 7656).2 = 200 by decide +kernel]; exact h.2⟩
theorem v_x7657 {i : Int} (h : 0 ≤ i ∧ i < 200) : z_ix 7657 100 i := ⟨by decide +kernel, h.1, by rw [show (z_sh 7657).2 = 200 by decide +kernel]; exact h.2⟩
theorem v_xk {c i : Int} (hc : 0 ≤ c ∧ c < 200) (h : 0 ≤ i ∧ i < 200) : z_ix (3235 + c) 100 i := by
  have e := sh_r3234 (c := 3235 + c) (by omega)
  exact ⟨⟨by omega, by omega, by rw [e]⟩, h.1, by rw [e]; exact h.2⟩
theorem v_xb {c i : Int} (hc : 0 ≤ c ∧ c < 200) (h : 0 ≤ i ∧ i < 8) : z_ix (3452 + c) 100 i := by
  have e := sh_r3451 (c := 3452 + c) (by omega)
  exact ⟨⟨by omega, by omega, by rw [e]⟩, h.1, by rw [e]; exact h.2⟩
theorem v_xt {c i : Int} (hc : 0 ≤ c ∧ c < 4000) (h : 0 ≤ i ∧ i < 2) : z_ix (3653 + c) 100 i := by
  have e := sh_r3652 (c := 3653 + c) (by omega)
  exact ⟨⟨by omega, by omega, by rw [e]⟩, h.1, by rw [e]; exact h.2⟩
theorem v_xl {c i : Int} (hc : 0 ≤ c ∧ c < 200) (h : 0 ≤ i ∧ i < 20) : z_ix (407 + c) 100 i := by
  have e := sh_L0 (c := 407 + c) (by omega)
  exact ⟨⟨by omega, by omega, by rw [e]⟩, h.1, by rw [e]; exact h.2⟩
theorem v_wid {x : Int} (h : -2147483648 ≤ x ∧ x ≤ 2147483647) : z_w x = x := z_wid (by unfold z_I; omega)
