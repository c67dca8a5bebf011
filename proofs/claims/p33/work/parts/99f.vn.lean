/-! moves, the class's side -/
/-- units fresh with setting 5 turned over -/
def y_FLc (s sf : z_M) : Prop := z_CI sf ∧ y_U2 sf ∧ (∀ a b : Int, 2 ≤ a → a ≤ 190 → ¬ (a = 3 ∧ b = 5) → sf a b = s a b) ∧ sf 3 5 = 1 - s 3 5
/-- the lines that were broken beside -/
def y_LSn (D s : z_M) (nx : Int → Int) (c : Nat) : Prop := y_NX (fun a b => y_LG D a b (s 3 2)) (y_cl2 (y_me D (s 3 7) (s 191 16)) (s 191 16)) (s 191 16) (s 3 0) (s 3 3) nx ∧ (c : Int) ≤ s 191 16 ∧ s 249 6 = c ∧ y_LR nx (s 257) (s 191 16) c
def y_QMc (s : z_M) (x : Int) : Prop := ∃ (sr sf : z_M) (nx : Int → Int) (c : Nat), y_RY s sr ∧ y_FLc s sf ∧ y_LSn (y_dc sf) sf nx c ∧ x = y_su (y_mF (sr 260) (y_nl (sf 257) c) (sf 197)) 0 (sf 191 16)
theorem e_cmoves {fu : Nat} (hfu : 8589934592 ≤ fu) {s : z_M} (c : z_CI s) (h : y_V3 s) (hy : y_Y4 s) (h5 : s 3 5 = 0 ∨ s 3 5 = 1) (hf : ∀ sf, y_FLc s sf → y_OKc sf) : z_T (fX11_moves fu s 1) (fun v _ => ∃ x, v = vI x ∧ y_QMc s x) := by
  refine T_of (fX11_moves.eq_1 ..) ?_
  refine T_if1 v_ob1 ?_
  refine T_useN (e_freshY hfu c h hy) (fun v sr hq => ?_)
  obtain ⟨rfl, ry⟩ := hq
  refine T_vN ?_
  have rf := ry.1
  have e5 : sr 3 5 = s 3 5 := rf.2.2.1 3 5 (by decide) (by decide)
  refine T_if1 v_ob1 ?_
  refine T_let 2 (by decide +kernel) ?_
  refine T_if1 v_ob1 ?_
  refine T_let 2 (by decide +kernel) ?_
  refine T_if1 (by decide +kernel) ?_
  refine T_getV w_r2 (by omega) rfl ?_
  refine T_let (1 - sr 3 5) (v_wid (by omega)) ?_
  refine T_if1 (by decide +kernel) ?_
  refine T_putX w_r2 (by omega) ?_
  have a7 : z_up sr 3 5 (1 - sr 3 5) 3 5 = 1 - sr 3 5 := z_up_s
  have f7 : ∀ a b : Int, ¬ (a = 3 ∧ b = 5) → z_up sr 3 5 (1 - sr 3 5) a b = sr a b := fun _ _ q => z_up_k2 q
  have c7 : z_CI (z_up sr 3 5 (1 - sr 3 5)) := CI_up rf.1 (bdr_3 5) (by omega)
  generalize z_up sr 3 5 (1 - sr 3 5) = s7 at a7 f7 c7 ⊢
  refine T_if1 v_ob1 ?_
  refine T_let 191 (by decide +kernel) ?_
  refine T_if1 (by decide +kernel) ?_
  have b0 : y_B0 s7 := y_B0.fr rf.2.1.1 (f7 211 0 (by decide)) (f7 213 0 (by decide))
  refine T_useN (sf_X10_build_191K hfu s7 c7 b0) (fun v s9 hq => ?_)
  obtain ⟨c9, f9, u9, rfl⟩ := hq
  refine T_vN ?_
  refine T_if1 v_ob1 ?_
  refine T_let 220 (by decide +kernel) ?_
  refine T_if1 (by decide +kernel) ?_
  refine T_useN (sf_X5_forget_220K hfu s9 c9 u9) (fun v s11 hq => ?_)
  obtain ⟨c11, f11, u11, rfl⟩ := hq
  refine T_vN ?_
  have k11 : ∀ a b : Int, 2 ≤ a → a ≤ 190 → ¬ (a = 3 ∧ b = 5) → s11 a b = s a b := fun a b p q n => ((f11 a b (by unfold R_X5_forget_220; omega)).trans ((f9 a b (by unfold R_X10_build_191; omega)).trans (f7 a b n))).trans (rf.2.2.1 a b p q)
  have k35 : s11 3 5 = 1 - s 3 5 := by rw [f11 3 5 (by unfold R_X5_forget_220; omega), f9 3 5 (by unfold R_X10_build_191; omega), a7, e5]
  have ok := hf s11 ⟨c11, u11.1, k11, k35⟩
  have cm := ok.CM (u11.2 ok)
  have hl := ok.2.2.2.2.2.1
  have hb0 := CI_b c11 (bdr_3 0)
  have hb3 := CI_b c11 (bdr_3 3)
  refine T_if1 v_ob1 ?_
  refine T_let 249 (by decide +kernel) ?_
  refine T_if1 v_ob1 ?_
  refine T_let 2 (by decide +kernel) ?_
  refine T_if1 (by decide +kernel) ?_
  refine T_getV w_r2 (by omega) rfl ?_
  refine T_if1 v_ob1 ?_
  refine T_let 2 (by decide +kernel) ?_
  refine T_if1 (by decide +kernel) ?_
  refine T_getV w_r2 (by omega) rfl ?_
  refine T_if1 (by decide +kernel) ?_
  refine T_useN (T_and (sf_X1_go_249K hfu s11 c11 (s11 3 0) (s11 3 3) (by omega) (by omega) u11 (y_LNr.i (by omega))) (e_go hfu (Or.inr rfl) cm rfl (by omega) (md := s11 3 3))) (fun v sf hq => ?_)
  obtain ⟨⟨cf, ff, uf, _, _⟩, rfl, ⟨nx, cc, nxd, cn, ce, lr⟩, _, _⟩ := hq
  refine T_vN ?_
  have g3 : ∀ j : Int, sf 3 j = s11 3 j := fun j => ff 3 j (by unfold R_X1_go_249; omega)
  have g0 : sf 191 16 = s11 191 16 := ff 191 16 (by unfold R_X1_go_249; omega)
  have flf : y_FLc s sf := ⟨cf, uf.1, fun a b p q n => (ff a b (by unfold R_X1_go_249; omega)).trans (k11 a b p q n), (g3 5).trans k35⟩
  have ed : y_dc sf = y_dc s11 := y_dc.fr g0 (g3 6) (fun x b q => ff x b (by unfold R_X1_go_249; omega))
  have ls : y_LSn (y_dc sf) sf nx cc := by
    unfold y_LSn
    rw [ed, g3, g3, g3, g3, g0]
    exact ⟨nxd, cn, ce, lr⟩
  have e260 : sf 260 = sr 260 := funext fun b => (ff 260 b (by unfold R_X1_go_249; omega)).trans ((f11 260 b (by unfold R_X5_forget_220; omega)).trans ((f9 260 b (by unfold R_X10_build_191; omega)).trans (f7 260 b (by omega))))
  refine T_if1 v_ob1 ?_
  refine T_let 249 (by decide +kernel) ?_
  refine T_if1 v_ob1 ?_
  refine T_let 258 (by decide +kernel) ?_
  refine T_if1 (by decide +kernel) ?_
  refine T_let 259 (by decide +kernel) ?_
  refine T_if1 (by decide +kernel) ?_
  have okf := hf sf flf
  have fz := uf.1.FZ okf.2.1 (CI_b cf (k := 6) (j := 6) bd_6_6)
  have nn := okf.2.2.2.1
  have cn2 := ls.2.1
  have at' : ∀ i : Int, 0 ≤ i → i < (cc : Int) → 0 ≤ sf 257 i ∧ sf 257 i < sf 257 (i + 1) ∧ sf 257 (i + 1) ≤ sf 191 16 := fun i p q => ls.2.2.2.SV ls.1.b p q
  have r0 : sf 257 0 = 0 := ls.2.2.2.1 0 (Nat.zero_le _)
  have rc : sf 257 cc = sf 191 16 := (ls.2.2.2.1 cc (Nat.le_refl _)).trans ls.2.2.2.2.2
  refine T_useI (e_movedFrom hfu (s := sf) (n := sf 191 16) (c := cc) (nl := y_nl (sf 257) cc) ls.2.2.1 ⟨by omega, by omega⟩ at' r0 rc nn.2 (fun u p q => by have z := fz.1 u p q; omega) (fun l u a b p q => y_nl_at cc at' l u a b p q)) (fun v sx hq => ?_)
  obtain ⟨rfl, e9⟩ := hq
  have e8 := e9.symm
  subst e8
  refine T_vI ?_
  have z5 : sf 3 5 = 1 - s 3 5 := flf.2.2.2
  refine T_if1 v_ob1 ?_
  refine T_let 2 (by decide +kernel) ?_
  refine T_if1 v_ob1 ?_
  refine T_let 2 (by decide +kernel) ?_
  refine T_if1 (by decide +kernel) ?_
  refine T_getV w_r2 (by omega) rfl ?_
  refine T_let (1 - sf 3 5) (v_wid (by omega)) ?_
  refine T_if1 (by decide +kernel) ?_
  refine T_putX w_r2 (by omega) ?_
  refine T_if1 ⟨v_ob1, bl0⟩ ?_
  refine T_let _ rfl ?_
  exact T_ret ⟨_, rfl, sr, sf, nx, cc, ry, flf, ls, by rw [e260]⟩
