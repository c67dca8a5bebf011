/-! THE RUNS of one call on a fresh object (by program, wip/tool/mkrun.py) -/
theorem T_eq {E : z_O} {v : z_V} {s : z_M} (h : z_T E (fun v2 s2 => v2 = v ∧ s2 = s)) : E = some (v, s) := by
  obtain ⟨v2, s2, e, h1, h2⟩ := h
  rw [e, h1, h2]
/-- the reference's texts are empty -/
def z_ZC (s : z_M) : Prop := ∀ k j : Int, 316 ≤ k → k ≤ 404 → s k j = 0
theorem z_ZC.up {s : z_M} {k j v : Int} (h : z_ZC s) (hk : k < 316 ∨ 404 < k) : z_ZC (z_up s k j v) := fun a b h1 h2 => by
  rw [z_up_k (by omega)]; exact h a b h1 h2
theorem z_ZC0 : z_ZC z_s0 := fun k j h1 h2 => by
  unfold z_s0 z_sA
  repeat rw [z_up_k (by omega)]
theorem z_ixr {k i : Int} (h : (1 ≤ k ∧ k ≤ 7658 ∧ (z_sh k).1 = 100) ∧ (z_sh k).2 = 200) (h0 : 0 ≤ i) (h1 : i < 200) : z_ix k 100 i := ⟨h.1, h0, by rw [h.2]; exact h1⟩
theorem z_w_i {i : Int} (h0 : 0 ≤ i) (h1 : i < 200) : z_w (i + 1) = i + 1 := z_wid ⟨by omega, by omega⟩
theorem e_cl_0_1 {s : z_M} {k : z_M → z_O} {P : z_V → z_M → Prop} (hs : z_ZC s) (hk : z_T (k s) P) : ∀ (n F : Nat) (i : Int), i = 200 - (n : Int) → n < F → 0 ≤ i → z_T (fX12_copies_L31 1000 309 0 1 F s i k) P := by
  intro n
  induction n with
  | zero =>
    intro F i hi hF h0
    obtain ⟨F, rfl⟩ : ∃ F2, F = F2 + 1 := ⟨F - 1, by omega⟩
    refine T_of (fX12_copies_L31.eq_2 ..) ?_
    exact T_if1 (by omega) hk
  | succ n ih =>
    intro F i hi hF h0
    obtain ⟨F, rfl⟩ : ∃ F2, F = F2 + 1 := ⟨F - 1, by omega⟩
    have h1 : i < 200 := by omega
    refine T_of (fX12_copies_L31.eq_2 ..) ?_
    refine T_if0 (by omega) ?_
    refine T_if1 (by decide +kernel) ?_
    refine T_let 330 (by decide +kernel) ?_
    refine T_if1 (by decide +kernel) ?_
    refine T_let 332 (by decide +kernel) ?_
    refine T_if1 (by decide +kernel) ?_
    refine T_let 330 (by decide +kernel) ?_
    refine T_if1 (by decide +kernel) ?_
    refine T_let 331 (by decide +kernel) ?_
    refine T_if1 (z_ixr (by decide +kernel) h0 h1) ?_
    refine T_let 0 (hs 331 i (by decide) (by decide)) ?_
    refine T_if1 (z_ixr (by decide +kernel) h0 h1) ?_
    refine T_up0 (hs 332 i (by decide) (by decide)) ?_
    refine T_if1 (by decide +kernel) ?_
    refine T_let 345 (by decide +kernel) ?_
    refine T_if1 (by decide +kernel) ?_
    refine T_let 347 (by decide +kernel) ?_
    refine T_if1 (by decide +kernel) ?_
    refine T_let 345 (by decide +kernel) ?_
    refine T_if1 (by decide +kernel) ?_
    refine T_let 346 (by decide +kernel) ?_
    refine T_if1 (z_ixr (by decide +kernel) h0 h1) ?_
    refine T_let 0 (hs 346 i (by decide) (by decide)) ?_
    refine T_if1 (z_ixr (by decide +kernel) h0 h1) ?_
    refine T_up0 (hs 347 i (by decide) (by decide)) ?_
    refine T_if1 (by decide +kernel) ?_
    refine T_let 360 (by decide +kernel) ?_
    refine T_if1 (by decide +kernel) ?_
    refine T_let 362 (by decide +kernel) ?_
    refine T_if1 (by decide +kernel) ?_
    refine T_let 360 (by decide +kernel) ?_
    refine T_if1 (by decide +kernel) ?_
    refine T_let 361 (by decide +kernel) ?_
    refine T_if1 (z_ixr (by decide +kernel) h0 h1) ?_
    refine T_let 0 (hs 361 i (by decide) (by decide)) ?_
    refine T_if1 (z_ixr (by decide +kernel) h0 h1) ?_
    refine T_up0 (hs 362 i (by decide) (by decide)) ?_
    refine T_if1 (by decide +kernel) ?_
    refine T_let 375 (by decide +kernel) ?_
    refine T_if1 (by decide +kernel) ?_
    refine T_let 377 (by decide +kernel) ?_
    refine T_if1 (by decide +kernel) ?_
    refine T_let 375 (by decide +kernel) ?_
    refine T_if1 (by decide +kernel) ?_
    refine T_let 376 (by decide +kernel) ?_
    refine T_if1 (z_ixr (by decide +kernel) h0 h1) ?_
    refine T_let 0 (hs 376 i (by decide) (by decide)) ?_
    refine T_if1 (z_ixr (by decide +kernel) h0 h1) ?_
    refine T_up0 (hs 377 i (by decide) (by decide)) ?_
    refine T_if1 (by decide +kernel) ?_
    refine T_let 390 (by decide +kernel) ?_
    refine T_if1 (by decide +kernel) ?_
    refine T_let 392 (by decide +kernel) ?_
    refine T_if1 (by decide +kernel) ?_
    refine T_let 390 (by decide +kernel) ?_
    refine T_if1 (by decide +kernel) ?_
    refine T_let 391 (by decide +kernel) ?_
    refine T_if1 (z_ixr (by decide +kernel) h0 h1) ?_
    refine T_let 0 (hs 391 i (by decide) (by decide)) ?_
    refine T_if1 (z_ixr (by decide +kernel) h0 h1) ?_
    refine T_up0 (hs 392 i (by decide) (by decide)) ?_
    refine T_of (fX12_copies_L121.eq_2 ..) ?_
    refine T_if0 (by decide) ?_
    refine T_if1 (by decide +kernel) ?_
    refine T_let 315 (by decide +kernel) ?_
    refine T_if1 (by decide +kernel) ?_
    refine T_let 316 (by decide +kernel) ?_
    refine T_if1 (by decide +kernel) ?_
    refine T_let 0 (hs 316 1 (by decide) (by decide)) ?_
    refine T_if1 h0 ?_
    refine T_of (fX12_copies_J168.eq_1 ..) ?_
    refine T_let (i + 1) (z_w_i h0 h1) ?_
    exact ih F (i + 1) (by omega) (by omega) (by omega)
theorem e_copies_0_1 {s : z_M} (hs : z_ZC s) : fX12_copies 1000 s 309 0 1 = some (vN, s) := by
  refine T_eq ?_
  refine T_of (fX12_copies.eq_1 ..) ?_
  refine T_of (fX12_copies_L2.eq_2 ..) ?_
  refine T_if0 (by decide) ?_
  refine T_if1 (by decide +kernel) ?_
  refine T_let 315 (by decide +kernel) ?_
  refine T_if1 (by decide +kernel) ?_
  refine T_let 317 (by decide +kernel) ?_
  refine T_if1 (by decide +kernel) ?_
  refine T_let 315 (by decide +kernel) ?_
  refine T_if1 (by decide +kernel) ?_
  refine T_let 316 (by decide +kernel) ?_
  refine T_if1 (by decide +kernel) ?_
  refine T_let 0 (hs 316 0 (by decide) (by decide)) ?_
  refine T_if1 (by decide +kernel) ?_
  refine T_up0 (hs 317 0 (by decide) (by decide)) ?_
  refine T_let 1 (by decide +kernel) ?_
  refine T_of (fX12_copies_L2.eq_2 ..) ?_
  refine T_if0 (by decide) ?_
  refine T_if1 (by decide +kernel) ?_
  refine T_let 315 (by decide +kernel) ?_
  refine T_if1 (by decide +kernel) ?_
  refine T_let 317 (by decide +kernel) ?_
  refine T_if1 (by decide +kernel) ?_
  refine T_let 315 (by decide +kernel) ?_
  refine T_if1 (by decide +kernel) ?_
  refine T_let 316 (by decide +kernel) ?_
  refine T_if1 (by decide +kernel) ?_
  refine T_let 0 (hs 316 1 (by decide) (by decide)) ?_
  refine T_if1 (by decide +kernel) ?_
  refine T_up0 (hs 317 1 (by decide) (by decide)) ?_
  refine T_let 2 (by decide +kernel) ?_
  refine T_of (fX12_copies_L2.eq_2 ..) ?_
  refine T_if0 (by decide) ?_
  refine T_if1 (by decide +kernel) ?_
  refine T_let 315 (by decide +kernel) ?_
  refine T_if1 (by decide +kernel) ?_
  refine T_let 317 (by decide +kernel) ?_
  refine T_if1 (by decide +kernel) ?_
  refine T_let 315 (by decide +kernel) ?_
  refine T_if1 (by decide +kernel) ?_
  refine T_let 316 (by decide +kernel) ?_
  refine T_if1 (by decide +kernel) ?_
  refine T_let 0 (hs 316 2 (by decide) (by decide)) ?_
  refine T_if1 (by decide +kernel) ?_
  refine T_up0 (hs 317 2 (by decide) (by decide)) ?_
  refine T_let 3 (by decide +kernel) ?_
  refine T_of (fX12_copies_L2.eq_2 ..) ?_
  refine T_if1 (by decide) ?_
  exact e_cl_0_1 hs (T_ret ⟨rfl, rfl⟩) 200 1000 0 (by decide) (by decide) (by decide)
theorem e_cl_0_13 {s : z_M} {k : z_M → z_O} {P : z_V → z_M → Prop} (hs : z_ZC s) (hk : z_T (k s) P) : ∀ (n F : Nat) (i : Int), i = 200 - (n : Int) → n < F → 0 ≤ i → z_T (fX12_copies_L31 1000 309 0 13 F s i k) P := by
  intro n
  induction n with
  | zero =>
    intro F i hi hF h0
    obtain ⟨F, rfl⟩ : ∃ F2, F = F2 + 1 := ⟨F - 1, by omega⟩
    refine T_of (fX12_copies_L31.eq_2 ..) ?_
    exact T_if1 (by omega) hk
  | succ n ih =>
    intro F i hi hF h0
    obtain ⟨F, rfl⟩ : ∃ F2, F = F2 + 1 := ⟨F - 1, by omega⟩
    have h1 : i < 200 := by omega
    refine T_of (fX12_copies_L31.eq_2 ..) ?_
    refine T_if0 (by omega) ?_
    refine T_if1 (by decide +kernel) ?_
    refine T_let 330 (by decide +kernel) ?_
    refine T_if1 (by decide +kernel) ?_
    refine T_let 344 (by decide +kernel) ?_
    refine T_if1 (by decide +kernel) ?_
    refine T_let 330 (by decide +kernel) ?_
    refine T_if1 (by decide +kernel) ?_
    refine T_let 331 (by decide +kernel) ?_
    refine T_if1 (z_ixr (by decide +kernel) h0 h1) ?_
    refine T_let 0 (hs 331 i (by decide) (by decide)) ?_
    refine T_if1 (z_ixr (by decide +kernel) h0 h1) ?_
    refine T_up0 (hs 344 i (by decide) (by decide)) ?_
    refine T_if1 (by decide +kernel) ?_
    refine T_let 345 (by decide +kernel) ?_
    refine T_if1 (by decide +kernel) ?_
    refine T_let 359 (by decide +kernel) ?_
    refine T_if1 (by decide +kernel) ?_
    refine T_let 345 (by decide +kernel) ?_
    refine T_if1 (by decide +kernel) ?_
    refine T_let 346 (by decide +kernel) ?_
    refine T_if1 (z_ixr (by decide +kernel) h0 h1) ?_
    refine T_let 0 (hs 346 i (by decide) (by decide)) ?_
    refine T_if1 (z_ixr (by decide +kernel) h0 h1) ?_
    refine T_up0 (hs 359 i (by decide) (by decide)) ?_
    refine T_if1 (by decide +kernel) ?_
    refine T_let 360 (by decide +kernel) ?_
    refine T_if1 (by decide +kernel) ?_
    refine T_let 374 (by decide +kernel) ?_
    refine T_if1 (by decide +kernel) ?_
    refine T_let 360 (by decide +kernel) ?_
    refine T_if1 (by decide +kernel) ?_
    refine T_let 361 (by decide +kernel) ?_
    refine T_if1 (z_ixr (by decide +kernel) h0 h1) ?_
    refine T_let 0 (hs 361 i (by decide) (by decide)) ?_
    refine T_if1 (z_ixr (by decide +kernel) h0 h1) ?_
    refine T_up0 (hs 374 i (by decide) (by decide)) ?_
    refine T_if1 (by decide +kernel) ?_
    refine T_let 375 (by decide +kernel) ?_
    refine T_if1 (by decide +kernel) ?_
    refine T_let 389 (by decide +kernel) ?_
    refine T_if1 (by decide +kernel) ?_
    refine T_let 375 (by decide +kernel) ?_
    refine T_if1 (by decide +kernel) ?_
    refine T_let 376 (by decide +kernel) ?_
    refine T_if1 (z_ixr (by decide +kernel) h0 h1) ?_
    refine T_let 0 (hs 376 i (by decide) (by decide)) ?_
    refine T_if1 (z_ixr (by decide +kernel) h0 h1) ?_
    refine T_up0 (hs 389 i (by decide) (by decide)) ?_
    refine T_if1 (by decide +kernel) ?_
    refine T_let 390 (by decide +kernel) ?_
    refine T_if1 (by decide +kernel) ?_
    refine T_let 404 (by decide +kernel) ?_
    refine T_if1 (by decide +kernel) ?_
    refine T_let 390 (by decide +kernel) ?_
    refine T_if1 (by decide +kernel) ?_
    refine T_let 391 (by decide +kernel) ?_
    refine T_if1 (z_ixr (by decide +kernel) h0 h1) ?_
    refine T_let 0 (hs 391 i (by decide) (by decide)) ?_
    refine T_if1 (z_ixr (by decide +kernel) h0 h1) ?_
    refine T_up0 (hs 404 i (by decide) (by decide)) ?_
    refine T_of (fX12_copies_L121.eq_2 ..) ?_
    refine T_if0 (by decide) ?_
    refine T_if1 (by decide +kernel) ?_
    refine T_let 315 (by decide +kernel) ?_
    refine T_if1 (by decide +kernel) ?_
    refine T_let 316 (by decide +kernel) ?_
    refine T_if1 (by decide +kernel) ?_
    refine T_let 0 (hs 316 1 (by decide) (by decide)) ?_
    refine T_if1 h0 ?_
    refine T_of (fX12_copies_J168.eq_1 ..) ?_
    refine T_let (i + 1) (z_w_i h0 h1) ?_
    exact ih F (i + 1) (by omega) (by omega) (by omega)
theorem e_copies_0_13 {s : z_M} (hs : z_ZC s) : fX12_copies 1000 s 309 0 13 = some (vN, s) := by
  refine T_eq ?_
  refine T_of (fX12_copies.eq_1 ..) ?_
  refine T_of (fX12_copies_L2.eq_2 ..) ?_
  refine T_if0 (by decide) ?_
  refine T_if1 (by decide +kernel) ?_
  refine T_let 315 (by decide +kernel) ?_
  refine T_if1 (by decide +kernel) ?_
  refine T_let 329 (by decide +kernel) ?_
  refine T_if1 (by decide +kernel) ?_
  refine T_let 315 (by decide +kernel) ?_
  refine T_if1 (by decide +kernel) ?_
  refine T_let 316 (by decide +kernel) ?_
  refine T_if1 (by decide +kernel) ?_
  refine T_let 0 (hs 316 0 (by decide) (by decide)) ?_
  refine T_if1 (by decide +kernel) ?_
  refine T_up0 (hs 329 0 (by decide) (by decide)) ?_
  refine T_let 1 (by decide +kernel) ?_
  refine T_of (fX12_copies_L2.eq_2 ..) ?_
  refine T_if0 (by decide) ?_
  refine T_if1 (by decide +kernel) ?_
  refine T_let 315 (by decide +kernel) ?_
  refine T_if1 (by decide +kernel) ?_
  refine T_let 329 (by decide +kernel) ?_
  refine T_if1 (by decide +kernel) ?_
  refine T_let 315 (by decide +kernel) ?_
  refine T_if1 (by decide +kernel) ?_
  refine T_let 316 (by decide +kernel) ?_
  refine T_if1 (by decide +kernel) ?_
  refine T_let 0 (hs 316 1 (by decide) (by decide)) ?_
  refine T_if1 (by decide +kernel) ?_
  refine T_up0 (hs 329 1 (by decide) (by decide)) ?_
  refine T_let 2 (by decide +kernel) ?_
  refine T_of (fX12_copies_L2.eq_2 ..) ?_
  refine T_if0 (by decide) ?_
  refine T_if1 (by decide +kernel) ?_
  refine T_let 315 (by decide +kernel) ?_
  refine T_if1 (by decide +kernel) ?_
  refine T_let 329 (by decide +kernel) ?_
  refine T_if1 (by decide +kernel) ?_
  refine T_let 315 (by decide +kernel) ?_
  refine T_if1 (by decide +kernel) ?_
  refine T_let 316 (by decide +kernel) ?_
  refine T_if1 (by decide +kernel) ?_
  refine T_let 0 (hs 316 2 (by decide) (by decide)) ?_
  refine T_if1 (by decide +kernel) ?_
  refine T_up0 (hs 329 2 (by decide) (by decide)) ?_
  refine T_let 3 (by decide +kernel) ?_
  refine T_of (fX12_copies_L2.eq_2 ..) ?_
  refine T_if1 (by decide) ?_
  exact e_cl_0_13 hs (T_ret ⟨rfl, rfl⟩) 200 1000 0 (by decide) (by decide) (by decide)
theorem e_cl_13_0 {s : z_M} {k : z_M → z_O} {P : z_V → z_M → Prop} (hs : z_ZC s) (hk : z_T (k s) P) : ∀ (n F : Nat) (i : Int), i = 200 - (n : Int) → n < F → 0 ≤ i → z_T (fX12_copies_L31 1000 309 13 0 F s i k) P := by
  intro n
  induction n with
  | zero =>
    intro F i hi hF h0
    obtain ⟨F, rfl⟩ : ∃ F2, F = F2 + 1 := ⟨F - 1, by omega⟩
    refine T_of (fX12_copies_L31.eq_2 ..) ?_
    exact T_if1 (by omega) hk
  | succ n ih =>
    intro F i hi hF h0
    obtain ⟨F, rfl⟩ : ∃ F2, F = F2 + 1 := ⟨F - 1, by omega⟩
    have h1 : i < 200 := by omega
    refine T_of (fX12_copies_L31.eq_2 ..) ?_
    refine T_if0 (by omega) ?_
    refine T_if1 (by decide +kernel) ?_
    refine T_let 330 (by decide +kernel) ?_
    refine T_if1 (by decide +kernel) ?_
    refine T_let 331 (by decide +kernel) ?_
    refine T_if1 (by decide +kernel) ?_
    refine T_let 330 (by decide +kernel) ?_
    refine T_if1 (by decide +kernel) ?_
    refine T_let 344 (by decide +kernel) ?_
    refine T_if1 (z_ixr (by decide +kernel) h0 h1) ?_
    refine T_let 0 (hs 344 i (by decide) (by decide)) ?_
    refine T_if1 (z_ixr (by decide +kernel) h0 h1) ?_
    refine T_up0 (hs 331 i (by decide) (by decide)) ?_
    refine T_if1 (by decide +kernel) ?_
    refine T_let 345 (by decide +kernel) ?_
    refine T_if1 (by decide +kernel) ?_
    refine T_let 346 (by decide +kernel) ?_
    refine T_if1 (by decide +kernel) ?_
    refine T_let 345 (by decide +kernel) ?_
    refine T_if1 (by decide +kernel) ?_
    refine T_let 359 (by decide +kernel) ?_
    refine T_if1 (z_ixr (by decide +kernel) h0 h1) ?_
    refine T_let 0 (hs 359 i (by decide) (by decide)) ?_
    refine T_if1 (z_ixr (by decide +kernel) h0 h1) ?_
    refine T_up0 (hs 346 i (by decide) (by decide)) ?_
    refine T_if1 (by decide +kernel) ?_
    refine T_let 360 (by decide +kernel) ?_
    refine T_if1 (by decide +kernel) ?_
    refine T_let 361 (by decide +kernel) ?_
    refine T_if1 (by decide +kernel) ?_
    refine T_let 360 (by decide +kernel) ?_
    refine T_if1 (by decide +kernel) ?_
    refine T_let 374 (by decide +kernel) ?_
    refine T_if1 (z_ixr (by decide +kernel) h0 h1) ?_
    refine T_let 0 (hs 374 i (by decide) (by decide)) ?_
    refine T_if1 (z_ixr (by decide +kernel) h0 h1) ?_
    refine T_up0 (hs 361 i (by decide) (by decide)) ?_
    refine T_if1 (by decide +kernel) ?_
    refine T_let 375 (by decide +kernel) ?_
    refine T_if1 (by decide +kernel) ?_
    refine T_let 376 (by decide +kernel) ?_
    refine T_if1 (by decide +kernel) ?_
    refine T_let 375 (by decide +kernel) ?_
    refine T_if1 (by decide +kernel) ?_
    refine T_let 389 (by decide +kernel) ?_
    refine T_if1 (z_ixr (by decide +kernel) h0 h1) ?_
    refine T_let 0 (hs 389 i (by decide) (by decide)) ?_
    refine T_if1 (z_ixr (by decide +kernel) h0 h1) ?_
    refine T_up0 (hs 376 i (by decide) (by decide)) ?_
    refine T_if1 (by decide +kernel) ?_
    refine T_let 390 (by decide +kernel) ?_
    refine T_if1 (by decide +kernel) ?_
    refine T_let 391 (by decide +kernel) ?_
    refine T_if1 (by decide +kernel) ?_
    refine T_let 390 (by decide +kernel) ?_
    refine T_if1 (by decide +kernel) ?_
    refine T_let 404 (by decide +kernel) ?_
    refine T_if1 (z_ixr (by decide +kernel) h0 h1) ?_
    refine T_let 0 (hs 404 i (by decide) (by decide)) ?_
    refine T_if1 (z_ixr (by decide +kernel) h0 h1) ?_
    refine T_up0 (hs 391 i (by decide) (by decide)) ?_
    refine T_of (fX12_copies_L121.eq_2 ..) ?_
    refine T_if0 (by decide) ?_
    refine T_if1 (by decide +kernel) ?_
    refine T_let 315 (by decide +kernel) ?_
    refine T_if1 (by decide +kernel) ?_
    refine T_let 329 (by decide +kernel) ?_
    refine T_if1 (by decide +kernel) ?_
    refine T_let 0 (hs 329 1 (by decide) (by decide)) ?_
    refine T_if1 h0 ?_
    refine T_of (fX12_copies_J168.eq_1 ..) ?_
    refine T_let (i + 1) (z_w_i h0 h1) ?_
    exact ih F (i + 1) (by omega) (by omega) (by omega)
theorem e_copies_13_0 {s : z_M} (hs : z_ZC s) : fX12_copies 1000 s 309 13 0 = some (vN, s) := by
  refine T_eq ?_
  refine T_of (fX12_copies.eq_1 ..) ?_
  refine T_of (fX12_copies_L2.eq_2 ..) ?_
  refine T_if0 (by decide) ?_
  refine T_if1 (by decide +kernel) ?_
  refine T_let 315 (by decide +kernel) ?_
  refine T_if1 (by decide +kernel) ?_
  refine T_let 316 (by decide +kernel) ?_
  refine T_if1 (by decide +kernel) ?_
  refine T_let 315 (by decide +kernel) ?_
  refine T_if1 (by decide +kernel) ?_
  refine T_let 329 (by decide +kernel) ?_
  refine T_if1 (by decide +kernel) ?_
  refine T_let 0 (hs 329 0 (by decide) (by decide)) ?_
  refine T_if1 (by decide +kernel) ?_
  refine T_up0 (hs 316 0 (by decide) (by decide)) ?_
  refine T_let 1 (by decide +kernel) ?_
  refine T_of (fX12_copies_L2.eq_2 ..) ?_
  refine T_if0 (by decide) ?_
  refine T_if1 (by decide +kernel) ?_
  refine T_let 315 (by decide +kernel) ?_
  refine T_if1 (by decide +kernel) ?_
  refine T_let 316 (by decide +kernel) ?_
  refine T_if1 (by decide +kernel) ?_
  refine T_let 315 (by decide +kernel) ?_
  refine T_if1 (by decide +kernel) ?_
  refine T_let 329 (by decide +kernel) ?_
  refine T_if1 (by decide +kernel) ?_
  refine T_let 0 (hs 329 1 (by decide) (by decide)) ?_
  refine T_if1 (by decide +kernel) ?_
  refine T_up0 (hs 316 1 (by decide) (by decide)) ?_
  refine T_let 2 (by decide +kernel) ?_
  refine T_of (fX12_copies_L2.eq_2 ..) ?_
  refine T_if0 (by decide) ?_
  refine T_if1 (by decide +kernel) ?_
  refine T_let 315 (by decide +kernel) ?_
  refine T_if1 (by decide +kernel) ?_
  refine T_let 316 (by decide +kernel) ?_
  refine T_if1 (by decide +kernel) ?_
  refine T_let 315 (by decide +kernel) ?_
  refine T_if1 (by decide +kernel) ?_
  refine T_let 329 (by decide +kernel) ?_
  refine T_if1 (by decide +kernel) ?_
  refine T_let 0 (hs 329 2 (by decide) (by decide)) ?_
  refine T_if1 (by decide +kernel) ?_
  refine T_up0 (hs 316 2 (by decide) (by decide)) ?_
  refine T_let 3 (by decide +kernel) ?_
  refine T_of (fX12_copies_L2.eq_2 ..) ?_
  refine T_if1 (by decide) ?_
  exact e_cl_13_0 hs (T_ret ⟨rfl, rfl⟩) 200 1000 0 (by decide) (by decide) (by decide)
theorem e_refresh : fX11_refresh 1000 z_s0 1 = some (vN, (z_up (z_up z_s0 1 16 1) 1 17 1)) := by
  refine T_eq ?_
  refine T_of (fX11_refresh.eq_1 ..) ?_
  refine T_if1 (by decide +kernel) ?_
  refine T_let 0 (by decide +kernel) ?_
  refine T_if0 (by decide) ?_
  refine T_if1 (by decide +kernel) ?_
  refine T_let 191 (by decide +kernel) ?_
  refine T_if1 (by decide +kernel) ?_
  refine T_bN ?_
  refine T_of (fX10_build.eq_1 ..) ?_
  refine T_if1 (by decide +kernel) ?_
  refine T_bN ?_
  refine T_of (fX10_split.eq_1 ..) ?_
  refine T_if1 (by decide +kernel) ?_
  refine T_up0 (by decide +kernel) ?_
  refine T_of (fX10_split_L7.eq_2 ..) ?_
  refine T_if1 (by decide +kernel) ?_
  refine T_let 6 (by decide +kernel) ?_
  refine T_if1 (by decide +kernel) ?_
  refine T_let 0 (by decide +kernel) ?_
  refine T_if1 (by decide) ?_
  refine T_rN ?_
  refine T_of (fX10_build_L6.eq_2 ..) ?_
  refine T_if1 (by decide +kernel) ?_
  refine T_let 0 (by decide +kernel) ?_
  refine T_if1 (by decide) ?_
  refine T_if1 (by decide +kernel) ?_
  refine T_bN ?_
  refine T_of (fX10_addUp.eq_1 ..) ?_
  refine T_of (fX10_addUp_L2.eq_2 ..) ?_
  refine T_if1 (by decide +kernel) ?_
  refine T_let 0 (by decide +kernel) ?_
  refine T_if1 (by decide) ?_
  refine T_rN ?_
  refine T_if1 (by decide +kernel) ?_
  refine T_bN ?_
  refine T_of (fX10_pairUp.eq_1 ..) ?_
  refine T_if1 (by decide +kernel) ?_
  refine T_up0 (by decide +kernel) ?_
  refine T_of (fX10_pairUp_L7.eq_2 ..) ?_
  refine T_if1 (by decide +kernel) ?_
  refine T_let 0 (by decide +kernel) ?_
  refine T_if1 (by decide) ?_
  refine T_rN ?_
  refine T_of (fX10_build_L35.eq_2 ..) ?_
  refine T_if1 (by decide +kernel) ?_
  refine T_let 0 (by decide +kernel) ?_
  refine T_if1 (by decide) ?_
  refine T_if1 (by decide +kernel) ?_
  refine T_bN ?_
  refine T_of (fX10_tie.eq_1 ..) ?_
  refine T_if1 (by decide +kernel) ?_
  refine T_up0 (by decide +kernel) ?_
  refine T_of (fX10_tie_L7.eq_2 ..) ?_
  refine T_if1 (by decide +kernel) ?_
  refine T_let 0 (by decide +kernel) ?_
  refine T_if1 (by decide) ?_
  refine T_rN ?_
  refine T_rN ?_
  refine T_if1 (by decide +kernel) ?_
  refine T_let 220 (by decide +kernel) ?_
  refine T_if1 (by decide +kernel) ?_
  refine T_bN ?_
  refine T_of (fX5_forget.eq_1 ..) ?_
  refine T_if1 (by decide +kernel) ?_
  refine T_let 221 (by decide +kernel) ?_
  refine T_if1 (by decide +kernel) ?_
  refine T_let 191 (by decide +kernel) ?_
  refine T_if1 (by decide +kernel) ?_
  refine T_let 0 (by decide +kernel) ?_
  refine T_bI ?_
  refine T_of (fX5_slotOf.eq_1 ..) ?_
  refine T_let 1 (by decide +kernel) ?_
  refine T_let 0 (by decide +kernel) ?_
  refine T_if1 (by decide) ?_
  refine T_let 0 (by decide +kernel) ?_
  refine T_let 0 (by decide +kernel) ?_
  refine T_rI ?_
  refine T_if1 (by decide +kernel) ?_
  refine T_bN ?_
  refine T_of (fX7_clear.eq_1 ..) ?_
  refine T_of (fX7_clear_L2.eq_2 ..) ?_
  refine T_if1 (by decide) ?_
  refine T_rN ?_
  refine T_rN ?_
  refine T_if1 (by decide +kernel) ?_
  refine T_up ?_
  refine T_if1 (by decide +kernel) ?_
  refine T_up0 ((z_up_j (by decide)).trans (by decide +kernel)) ?_
  refine T_of (fX11_refresh_J31.eq_1 ..) ?_
  refine T_if1 (by decide +kernel) ?_
  refine T_let 0 ((z_up_j (by decide)).trans (by decide +kernel)) ?_
  refine T_if0 (by decide) ?_
  refine T_if1 (by decide +kernel) ?_
  refine T_let 240 (by decide +kernel) ?_
  refine T_if1 (by decide +kernel) ?_
  refine T_let 2 (by decide +kernel) ?_
  refine T_if1 (by decide +kernel) ?_
  refine T_bI ?_
  refine T_of (fX7_get.eq_1 ..) ?_
  refine T_if0 (by decide) ?_
  refine T_if1 (by decide +kernel) ?_
  refine T_let 3 (by decide +kernel) ?_
  refine T_if1 (by decide +kernel) ?_
  refine T_let 9 (by decide +kernel) ?_
  refine T_if0 (by decide) ?_
  refine T_if1 (by decide +kernel) ?_
  refine T_let 3 (by decide +kernel) ?_
  refine T_if1 (by decide +kernel) ?_
  refine T_let 120 ((z_up_k (by decide)).trans (by decide +kernel)) ?_
  refine T_of (fX7_get_J23.eq_1 ..) ?_
  refine T_rI ?_
  refine T_if1 (by decide +kernel) ?_
  refine T_let 2 (by decide +kernel) ?_
  refine T_if1 (by decide +kernel) ?_
  refine T_bI ?_
  refine T_of (fX7_get.eq_1 ..) ?_
  refine T_if0 (by decide) ?_
  refine T_if1 (by decide +kernel) ?_
  refine T_let 3 (by decide +kernel) ?_
  refine T_if1 (by decide +kernel) ?_
  refine T_let 9 (by decide +kernel) ?_
  refine T_if0 (by decide) ?_
  refine T_if1 (by decide +kernel) ?_
  refine T_let 3 (by decide +kernel) ?_
  refine T_if1 (by decide +kernel) ?_
  refine T_let 0 ((z_up_k (by decide)).trans (by decide +kernel)) ?_
  refine T_of (fX7_get_J23.eq_1 ..) ?_
  refine T_rI ?_
  refine T_if1 (by decide +kernel) ?_
  refine T_bN ?_
  refine T_of (fX1_go.eq_1 ..) ?_
  refine T_if1 (by decide) ?_
  refine T_of (fX1_go_J10.eq_1 ..) ?_
  refine T_if1 (by decide +kernel) ?_
  refine T_up0 ((z_up_k (by decide)).trans (by decide +kernel)) ?_
  refine T_of (fX1_go_L17.eq_2 ..) ?_
  refine T_if1 (by decide +kernel) ?_
  refine T_let 191 (by decide +kernel) ?_
  refine T_if1 (by decide +kernel) ?_
  refine T_let 0 ((z_up_k (by decide)).trans (by decide +kernel)) ?_
  refine T_if1 (by decide) ?_
  refine T_if1 (by decide +kernel) ?_
  refine T_let 247 (by decide +kernel) ?_
  refine T_if1 (by decide +kernel) ?_
  refine T_let 0 ((z_up_k (by decide)).trans (by decide +kernel)) ?_
  refine T_if1 (by decide +kernel) ?_
  refine T_let 191 (by decide +kernel) ?_
  refine T_if1 (by decide +kernel) ?_
  refine T_let 0 ((z_up_k (by decide)).trans (by decide +kernel)) ?_
  refine T_if1 (by decide +kernel) ?_
  refine T_bN ?_
  refine T_of (fX7_put.eq_1 ..) ?_
  refine T_if0 (by decide) ?_
  refine T_if1 (by decide +kernel) ?_
  refine T_let 248 (by decide +kernel) ?_
  refine T_if1 (by decide +kernel) ?_
  refine T_let 201 (by decide +kernel) ?_
  refine T_if0 (by decide) ?_
  refine T_if1 (by decide +kernel) ?_
  refine T_let 248 (by decide +kernel) ?_
  refine T_if1 (by decide +kernel) ?_
  refine T_up0 ((z_up_k (by decide)).trans (by decide +kernel)) ?_
  refine T_of (fX7_put_J20.eq_1 ..) ?_
  refine T_rN ?_
  refine T_rN ?_
  refine T_if1 (by decide +kernel) ?_
  refine T_let 258 (by decide +kernel) ?_
  refine T_if1 (by decide +kernel) ?_
  refine T_bN ?_
  refine T_of (fX3_build.eq_1 ..) ?_
  refine T_if1 (by decide +kernel) ?_
  refine T_let 279 (by decide +kernel) ?_
  refine T_if1 (by decide +kernel) ?_
  refine T_bN ?_
  refine T_of (fX0_clear.eq_1 ..) ?_
  refine T_if1 (by decide +kernel) ?_
  refine T_up0 ((z_up_k (by decide)).trans (by decide +kernel)) ?_
  refine T_rN ?_
  refine T_of (fX3_build_L9.eq_2 ..) ?_
  refine T_if1 (by decide +kernel) ?_
  refine T_let 240 (by decide +kernel) ?_
  refine T_if1 (by decide +kernel) ?_
  refine T_let 0 ((z_up_k (by decide)).trans (by decide +kernel)) ?_
  refine T_if1 (by decide) ?_
  refine T_if1 (by decide +kernel) ?_
  refine T_let 277 (by decide +kernel) ?_
  refine T_if1 (by decide +kernel) ?_
  refine T_let 240 (by decide +kernel) ?_
  refine T_if1 (by decide +kernel) ?_
  refine T_let 0 ((z_up_k (by decide)).trans (by decide +kernel)) ?_
  refine T_if1 (by decide +kernel) ?_
  refine T_let 279 (by decide +kernel) ?_
  refine T_if1 (by decide +kernel) ?_
  refine T_let 0 ((z_up_k (by decide)).trans (by decide +kernel)) ?_
  refine T_if1 (by decide +kernel) ?_
  refine T_bN ?_
  refine T_of (fX7_put.eq_1 ..) ?_
  refine T_if0 (by decide) ?_
  refine T_if1 (by decide +kernel) ?_
  refine T_let 278 (by decide +kernel) ?_
  refine T_if1 (by decide +kernel) ?_
  refine T_let 201 (by decide +kernel) ?_
  refine T_if0 (by decide) ?_
  refine T_if1 (by decide +kernel) ?_
  refine T_let 278 (by decide +kernel) ?_
  refine T_if1 (by decide +kernel) ?_
  refine T_up0 ((z_up_k (by decide)).trans (by decide +kernel)) ?_
  refine T_of (fX7_put_J20.eq_1 ..) ?_
  refine T_rN ?_
  refine T_rN ?_
  refine T_if1 (by decide +kernel) ?_
  refine T_up ?_
  refine T_if1 (by decide +kernel) ?_
  refine T_up0 ((z_up_j (by decide)).trans ((z_up_j (by decide)).trans (by decide +kernel))) ?_
  refine T_of (fX11_refresh_J78.eq_1 ..) ?_
  exact T_ret ⟨rfl, rfl⟩
