/-! READING, 2: what a step leaves, many steps, the class's loop -/
theorem y_rp_o {s : z_M} {k c i v a b : Int} (hc : z_gr k 0 = c) (h : a ≠ c) : z_rp s k i v a b = s a b := z_rp_f (by rw [hc]; exact h)
/-- what a step may change -/
abbrev y_RR (a b : Int) : Prop := a = 19 ∨ a = 21 ∨ a = 23 ∨ a = 25 ∨ a = 27 ∨ a = 29 ∨ a = 31 ∨ (a = 32 ∧ b ≠ 7)
theorem y_add_f {s : z_M} {code grp hd mk a b : Int} (h : ¬ y_RR a b) : y_add s code grp hd mk a b = s a b := by
  unfold y_add
  rw [z_up_k (by omega), y_rp_o gr30 (by omega), y_rp_o gr28 (by omega), y_rp_o gr26 (by omega), y_rp_o gr24 (by omega), y_rp_o gr22 (by omega), y_rp_o gr20 (by omega)]
theorem y_as_f {s : z_M} {code grp hd mk a b : Int} (h : ¬ y_RR a b) : (y_as s code grp hd mk).2 a b = s a b := by
  unfold y_as
  by_cases q : s 19 6 < 200
  · rw [if_pos q]; exact y_add_f h
  · rw [if_neg q]
theorem y_up_f {s : z_M} {k j v a b : Int} (hk : y_RR k j) (h : ¬ y_RR a b) : z_up s k j v a b = s a b := by
  by_cases e : a = k
  · subst e
    exact z_up_j (fun q => h (q ▸ hk))
  · exact z_up_k e
theorem y_al_f {s : z_M} {d i c a b : Int} (h : ¬ y_RR a b) : y_al s d i c a b = s a b := by
  unfold y_al y_rdo
  by_cases q : d = 0
  · rw [if_pos q]; exact y_rp_o gr28 (by omega)
  · rw [if_neg q]; exact y_rp_o gr30 (by omega)
theorem y_so_f {s : z_M} {c a b : Int} (h : ¬ y_RR a b) : (y_so s c).2 a b = s a b := by
  unfold y_so
  by_cases h1 : c = 42
  · rw [if_pos h1]; exact y_up_f (by decide) h
  · rw [if_neg h1]
    by_cases h2 : c = 95
    · rw [if_pos h2]; exact y_up_f (by decide) h
    · rw [if_neg h2]
      by_cases h3 : c = 123
      · rw [if_pos h3]
        exact (y_up_f (by decide) h).trans ((y_up_f (by decide) h).trans (y_up_f (by decide) h))
      · rw [if_neg h3]
        by_cases h4 : y_big c
        · rw [if_pos h4]; exact y_as_f h
        · rw [if_neg h4]
          by_cases h5 : y_alo c
          · rw [if_pos h5]; exact y_as_f h
          · rw [if_neg h5]
theorem y_sd_f {s : z_M} {c a b : Int} (h : ¬ y_RR a b) : (y_sd s c).2 a b = s a b := by
  unfold y_sd
  by_cases h1 : s 32 2 = 4
  · rw [if_pos h1]
  · rw [if_neg h1]
    by_cases h2 : y_big c
    · rw [if_pos h2]
      exact (y_as_f h).trans ((y_up_f (by decide) h).trans ((y_up_f (by decide) h).trans ((y_up_f (by decide) h).trans (y_up_f (by decide) h))))
    · rw [if_neg h2]
theorem y_si_f {s : z_M} {c a b : Int} (h : ¬ y_RR a b) : (y_si s c).2 a b = s a b := by
  unfold y_si
  by_cases h0 : c = 124
  · rw [if_pos h0]
    exact (y_up_f (by decide) h).trans ((y_up_f (by decide) h).trans (y_up_f (by decide) h))
  · rw [if_neg h0]
    by_cases h1 : s 32 3 = 3
    · rw [if_pos h1]
    · rw [if_neg h1]
      by_cases h2 : y_big c
      · rw [if_pos h2]
        exact (y_as_f h).trans (y_up_f (by decide) h)
      · rw [if_neg h2]
theorem y_sr_f {s : z_M} {c a b : Int} (h : ¬ y_RR a b) : (y_sr s c).2 a b = s a b := by
  unfold y_sr
  by_cases h1 : y_sml c ∧ s 32 4 < 9
  · rw [if_pos h1]
    exact (y_al_f h).trans (y_up_f (by decide) h)
  · rw [if_neg h1]
    by_cases h2 : s 32 4 = 0 ∨ y_sml c
    · rw [if_pos h2]
    · rw [if_neg h2]
      by_cases h3 : c = 124 ∧ s 32 6 = 0
      · rw [if_pos h3]
        exact (y_up_f (by decide) h).trans (y_up_f (by decide) h)
      · rw [if_neg h3]
        by_cases h4 : c = 59
        · rw [if_pos h4]; exact y_up_f (by decide) h
        · rw [if_neg h4]
          by_cases h5 : c = 125
          · rw [if_pos h5]; exact y_up_f (by decide) h
          · rw [if_neg h5]
theorem y_st_f {s : z_M} {c a b : Int} (h : ¬ y_RR a b) : (y_st s c).2 a b = s a b := by
  unfold y_st
  by_cases h0 : s 32 1 = 0
  · rw [if_pos h0]; exact y_so_f h
  · rw [if_neg h0]
    by_cases h1 : s 32 1 = 1
    · rw [if_pos h1]; exact y_sd_f h
    · rw [if_neg h1]
      by_cases h2 : s 32 1 = 2
      · rw [if_pos h2]; exact y_si_f h
      · rw [if_neg h2]; exact y_sr_f h
/-- the numbers after m bytes -/
def y_gi (b : Int → Int) (g : z_M) : Nat → z_M
  | 0 => g
  | m + 1 => z_up (y_st (y_gi b g m) (b m)).2 32 7 ((m : Int) + 1)
theorem y_gi_f {b : Int → Int} {g : z_M} {a c : Int} (h : ¬ y_RR a c) (h2 : a ≠ 32) : ∀ m : Nat, y_gi b g m a c = g a c := by
  intro m
  induction m with
  | zero => rfl
  | succ m ih =>
    show z_up _ 32 7 _ a c = _
    rw [z_up_k h2, y_st_f h, ih]
theorem y_gi_7 {b : Int → Int} {g : z_M} (h : g 32 7 = 0) : ∀ m : Nat, y_gi b g m 32 7 = m := by
  intro m
  cases m with
  | zero => exact h
  | succ m =>
    show z_up _ 32 7 _ 32 7 = _
    rw [z_up_s]; omega
/-- no reason at the first m bytes -/
def y_go (b : Int → Int) (g : z_M) (m : Nat) : Prop := ∀ i : Nat, i < m → (y_st (y_gi b g i) (b i)).1 = 0
/-- how reading n bytes ends -/
def y_rd (b : Int → Int) (g : z_M) (n : Int) (v : z_V) (s' : z_M) : Prop := ∃ m : Nat, (m : Int) ≤ n ∧ y_go b g m ∧
  (((m : Int) = n ∧ v = vI (if y_gi b g m 32 1 = 0 then 0 else 1) ∧ s' = y_gi b g m) ∨ ((m : Int) < n ∧ (y_st (y_gi b g m) (b m)).1 ≠ 0 ∧ v = vI (y_st (y_gi b g m) (b m)).1 ∧ s' = (y_st (y_gi b g m) (b m)).2))
theorem ob4 : z_ob 4 7 := by decide +kernel
theorem rw4 : z_rw 4 := by decide +kernel
theorem gr4 : z_gr 4 0 = 5 := by decide +kernel
theorem ln4 : z_ln 4 = 300 := by decide +kernel
theorem e_rdL {fu : Nat} {g : z_M} {n : Int} (hg : g 32 7 = 0) (hn : n ≤ 300) : ∀ (F m : Nat), (m : Int) ≤ n → n - m < F → y_go (fun i => g 5 i) g m → z_T (fX6_read_L10 fu 32 4 n F (y_gi (fun i => g 5 i) g m) (fun t => if z_ob 32 6 then z_let (t 32 1) (fun x => if x ≠ 0 then fX6_read_J62 fu t 1 else fX6_read_J62 fu t 0) else none)) (y_rd (fun i => g 5 i) g n) := by
  intro F
  induction F with
  | zero =>
    intro m h1 h2 _
    exfalso; omega
  | succ F ih =>
    intro m h1 h2 h3
    refine T_of (fX6_read_L10.eq_2 ..) ?_
    refine T_if1 ob32 ?_
    refine T_let (m : Int) (y_gi_7 hg m) ?_
    by_cases hm : n ≤ (m : Int)
    · refine T_if1 hm ?_
      refine T_if1 ob32 ?_
      have e : (m : Int) = n := by omega
      by_cases h0 : y_gi (fun i => g 5 i) g m 32 1 = 0
      · refine T_let 0 h0 ?_
        refine T_if0 (by decide) ?_
        refine T_of (fX6_read_J62.eq_1 ..) ?_
        exact T_ret ⟨m, h1, h3, Or.inl ⟨e, by rw [if_pos h0], rfl⟩⟩
      · refine T_leq (fun x ex => ?_)
        refine T_if1 (by rw [← ex]; exact h0) ?_
        refine T_of (fX6_read_J62.eq_1 ..) ?_
        exact T_ret ⟨m, h1, h3, Or.inl ⟨e, by rw [if_neg h0], rfl⟩⟩
    · refine T_if0 hm ?_
      refine T_if1 ob32 ?_
      refine T_let (m : Int) (y_gi_7 hg m) ?_
      refine T_if1 ob4 ?_
      refine T_bI (T_of (e_get rw4) (T_rI ?_))
      have eb : z_rg (y_gi (fun i => g 5 i) g m) 4 (m : Int) = g 5 m := by
        rw [z_rg_in ⟨by omega, by rw [ln4]; omega⟩, gr4]
        exact y_gi_f (by unfold y_RR; omega) (by decide) m
      rw [eb]
      refine T_if1 ob32 ?_
      refine T_bI (T_of e_st6 ?_)
      by_cases hr : (y_st (y_gi (fun i => g 5 i) g m) (g 5 m)).1 = 0
      · show z_T (some (vI (y_st (y_gi (fun i => g 5 i) g m) (g 5 m)).1, (y_st (y_gi (fun i => g 5 i) g m) (g 5 m)).2)) _
        refine T_rI ?_
        refine T_if1 hr ?_
        refine T_if1 ob32 ?_
        have e7 : (y_st (y_gi (fun i => g 5 i) g m) (g 5 m)).2 32 7 = m := by rw [y_st_f (by decide)]; exact y_gi_7 hg m
        refine T_let (m : Int) e7 ?_
        refine T_let ((m : Int) + 1) (z_wid (by unfold z_I; omega)) ?_
        refine T_if1 ob32 ?_
        refine T_up ?_
        refine ih (m + 1) (by omega) (by omega) (fun i hi => ?_)
        by_cases q : i = m
        · subst q; exact hr
        · exact h3 i (by omega)
      · show z_T (some (vI (y_st (y_gi (fun i => g 5 i) g m) (g 5 m)).1, (y_st (y_gi (fun i => g 5 i) g m) (g 5 m)).2)) _
        refine T_rI ?_
        refine T_if0 hr ?_
        exact T_ret ⟨m, h1, h3, Or.inr ⟨by omega, hr, rfl, rfl⟩⟩
def y_g0 (s : z_M) : z_M := z_up (z_up s 32 1 0) 32 7 0
theorem e_rd6 {fu : Nat} (hfu : 8589934592 ≤ fu) {s : z_M} {n : Int} (h0 : 0 ≤ n) (hn : n ≤ 300) : z_T (fX6_read fu s 32 4 n) (y_rd (fun i => s 5 i) (y_g0 s) n) := by
  refine T_of (fX6_read.eq_1 ..) ?_
  refine T_if1 ob32 ?_
  refine T_up ?_
  refine T_if1 ob32 ?_
  refine T_up ?_
  exact e_rdL (g := y_g0 s) z_up_s hn fu 0 h0 (by omega) (fun i hi => absurd hi (Nat.not_lt_zero i))
