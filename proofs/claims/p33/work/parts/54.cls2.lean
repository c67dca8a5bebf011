/-! The class's text, more, undo, cut: what they do to texts -/
theorem y_as_012 {s : z_M} {code grp hd mk : Int} : (y_as s code grp hd mk).1 = 0 ∨ (y_as s code grp hd mk).1 = 1 ∨ (y_as s code grp hd mk).1 = 2 := by
  unfold y_as
  split
  · exact Or.inl rfl
  · exact Or.inr (Or.inr rfl)
theorem y_st_012 {s : z_M} {c : Int} : (y_st s c).1 = 0 ∨ (y_st s c).1 = 1 ∨ (y_st s c).1 = 2 := by
  unfold y_st
  split
  · unfold y_so
    repeat (first | exact y_as_012 | exact Or.inl rfl | exact Or.inr (Or.inl rfl) | split)
  · split
    · unfold y_sd
      repeat (first | exact y_as_012 | exact Or.inl rfl | exact Or.inr (Or.inl rfl) | split)
    · split
      · unfold y_si
        repeat (first | exact y_as_012 | exact Or.inl rfl | exact Or.inr (Or.inl rfl) | split)
      · unfold y_sr
        repeat (first | exact Or.inl rfl | exact Or.inr (Or.inl rfl) | split)
theorem y_rd_b {b : Int → Int} {g s' : z_M} {n : Int} {v : z_V} (h : y_rd b g n v s') : ∃ w, v = vI w ∧ 0 ≤ w ∧ w ≤ 2 := by
  obtain ⟨m, _, _, h | h⟩ := h
  · obtain ⟨_, h, _⟩ := h
    refine ⟨_, h, ?_⟩
    split <;> decide
  · obtain ⟨_, _, h, _⟩ := h
    have q := y_st_012 (s := y_gi b g m) (c := b m)
    exact ⟨_, h, by omega⟩
theorem y_rd_f {b : Int → Int} {g s' : z_M} {n : Int} {v : z_V} (h : y_rd b g n v s') {a c : Int} (h1 : ¬ y_RR a c) (h2 : a ≠ 32) : s' a c = g a c := by
  obtain ⟨m, _, _, h | h⟩ := h
  · rw [h.2.2]; exact y_gi_f h1 h2 m
  · rw [h.2.2.2, y_st_f h1]; exact y_gi_f h1 h2 m
theorem T_nen {P : z_V → z_M → Prop} {fu : Nat} {s : z_M} {v n : Int} {f : z_M → z_O} (kx : ¬ (0 ≤ v ∧ v < n) → z_T (some (vX 0, z_up s 1 14 (z_w (s 1 14 + 1)))) P) (kk : 0 ≤ v → v < n → z_T (f s) P) : z_T (z_bN (fX11_needExisting fu s 1 v n) f) P := by
  rw [e_ne]
  by_cases h : 0 ≤ v ∧ v < n
  · rw [if_pos h]; exact kk h.1 h.2
  · rw [if_neg h]; exact kx h
/-- all that the class keeps of texts is as it was -/
def y_SAME (s s' : z_M) : Prop := (∀ a b : Int, (6 ≤ a ∧ a ≤ 18) ∨ (33 ≤ a ∧ a ≤ 190) → s' a b = s a b)
theorem y_SAME.tr {s s' s'' : z_M} (h : y_SAME s s') (k : y_SAME s' s'') : y_SAME s s'' := fun a b q => (k a b q).trans (h a b q)
theorem y_HKc.to {r s s' : z_M} (h : y_HKc r s) (f : ∀ a b : Int, (6 ≤ a ∧ a ≤ 18) ∨ (33 ≤ a ∧ a ≤ 190) → s' a b = s a b) (hr : 0 ≤ r 33 1 ∧ r 33 1 ≤ 11) : y_HKc r s' := by
  obtain ⟨a1, a2, ⟨t1, t2, t3, t4⟩, a4⟩ := h
  refine ⟨by rw [f _ _ (by omega)]; exact a1, by rw [f _ _ (by omega)]; exact a2, ⟨by rw [f _ _ (by omega)]; exact t1, by rw [f _ _ (by omega)]; exact t2, by rw [f _ _ (by omega)]; exact t3, fun i p q => ?_⟩, fun a b p q => by rw [f _ _ (by omega)]; exact a4 a b p q⟩
  rw [f _ _ (by omega), f _ _ (by omega), f _ _ (by omega), f _ _ (by omega), f _ _ (by omega), f _ _ (by omega)]
  exact t4 i p q
theorem y_TE.to6 {r s s' : z_M} {k : Int} (h : y_TE r s 6 k) (f : ∀ a b : Int, 6 ≤ a ∧ a ≤ 18 → s' a b = s a b) : y_TE r s' 6 k := by
  obtain ⟨t1, t2, t3, t4⟩ := h
  refine ⟨by rw [f _ _ (by omega)]; exact t1, by rw [f _ _ (by omega)]; exact t2, by rw [f _ _ (by omega)]; exact t3, fun i p q => ?_⟩
  rw [f _ _ (by omega), f _ _ (by omega), f _ _ (by omega), f _ _ (by omega), f _ _ (by omega), f _ _ (by omega)]
  exact t4 i p q
/-- how a reading ends in the class: w the reason, s2 the numbers behind the reader -/
def y_CE (r s2 : z_M) (w : Int) (s' : z_M) : Prop := (w ≠ 0 ∧ s' 1 13 = s2 32 7 ∧ y_SAME r s' ∧ s' 1 16 = r 1 16) ∨ (w = 0 ∧ s' 1 13 = -1 ∧ s' 1 16 = 0 ∧ y_TE s2 s' 6 19 ∧ y_HKc r s')
theorem v_ob1 : z_ob 1 11 := by decide +kernel
theorem v_g1_1 : z_gr 1 1 = 4 := by decide +kernel
theorem v_g1_2 : z_gr 1 2 = 6 := by decide +kernel
theorem v_g1_3 : z_gr 1 3 = 19 := by decide +kernel
theorem v_g1_4 : z_gr 1 4 = 32 := by decide +kernel
theorem v_g1_5 : z_gr 1 5 = 33 := by decide +kernel
theorem v_g1_6 : z_gr 1 6 = 191 := by decide +kernel
theorem bd_33_1' : z_bd 33 1 = (0, 11) := by decide +kernel
theorem bd_33_2' : z_bd 33 2 = (0, 12) := by decide +kernel
theorem bd_19_6' : z_bd 19 6 = (0, 200) := by decide +kernel
theorem bd_1_12' : z_bd 1 12 = (0, 300) := by decide +kernel
theorem e_readTape {fu : Nat} (hfu : 8589934592 ≤ fu) {s : z_M} (c : z_CI s) {n : Int} (hn : 0 ≤ n ∧ n ≤ 300) : z_T (fX11_readTape fu s 1 n) (fun v s' => ∃ w s2, v = vI w ∧ (0 ≤ w ∧ w ≤ 2) ∧ y_rd (fun i => s 5 i) (y_g0 s) n (vI w) s2 ∧ y_CE s s2 w s') := by
  refine T_of (fX11_readTape.eq_1 ..) ?_
  refine T_if1 v_ob1 ?_
  refine T_let 32 v_g1_4 ?_
  refine T_if1 v_ob1 ?_
  refine T_let 4 v_g1_1 ?_
  refine T_if1 ob32 ?_
  refine T_useI (T_and (sf_X6_read_32_4 hfu s c n (by omega)) (e_rd6 hfu hn.1 hn.2)) (fun v s2 hq => ?_)
  obtain ⟨⟨c2, f2, _⟩, hr⟩ := hq
  obtain ⟨w, rfl, hw⟩ := y_rd_b hr
  refine T_vI ?_
  have g0 : ∀ a b : Int, a ≠ 32 → y_g0 s a b = s a b := fun a b q => by
    unfold y_g0
    rw [z_up_k q, z_up_k q]
  have fr : ∀ a b : Int, ¬ (19 ≤ a ∧ a ≤ 32) → s2 a b = s a b := fun a b q => (y_rd_f hr (by omega) (by omega)).trans (g0 a b (by omega))
  have fin : ∀ x : Int, (w = 0 → x = -1) → (w ≠ 0 → x = s2 32 7) → z_T (fX11_readTape_J29 fu s2 1 w 1 x) (fun v s' => ∃ w s2, v = vI w ∧ (0 ≤ w ∧ w ≤ 2) ∧ y_rd (fun i => s 5 i) (y_g0 s) n (vI w) s2 ∧ y_CE s s2 w s') := fun x hx0 hx1 => by
    refine T_of (fX11_readTape_J29.eq_1 ..) ?_
    refine T_if1 v_ob1 ?_
    refine T_up ?_
    refine T_if1 v_ob1 ?_
    refine T_up ?_
    obtain ⟨s4, h4⟩ : ∃ s4, z_up (z_up s2 1 13 x) 1 12 0 = s4 := ⟨_, rfl⟩
    rw [h4]
    have o4 : ∀ a b : Int, a ≠ 1 → s4 a b = s2 a b := fun a b q => by rw [← h4, z_up_k q, z_up_k q]
    have e13 : s4 1 13 = x := by rw [← h4, z_up_j (by decide), z_up_s]
    have e16 : s4 1 16 = s2 1 16 := by rw [← h4, z_up_j (by decide), z_up_j (by decide)]
    refine T_ite (fun hw0 => ?_) (fun hw0 => ?_)
    · refine T_of (fX11_readTape_J68.eq_1 ..) (T_ret ⟨w, s2, rfl, hw, hr, Or.inl ⟨hw0, by rw [e13]; exact hx1 hw0, fun a b q => ?_, ?_⟩⟩)
      · rw [o4 _ _ (by omega)]; exact fr _ _ (by omega)
      · rw [e16]; exact fr _ _ (by decide)
    · have w0 : w = 0 := by omega
      subst w0
      refine T_if1 v_ob1 ?_
      refine T_let 33 v_g1_5 ?_
      refine T_if1 v_ob1 ?_
      refine T_let 6 v_g1_2 ?_
      refine T_if1 v_ob33 ?_
      have b1 := CI_b c2 (k := 33) (j := 1) bd_33_1'
      have b2 := CI_b c2 (k := 33) (j := 2) bd_33_2'
      have b6 := CI_b c2 (k := 6) (j := 6) bd_6_6
      have b19 := CI_b c2 (k := 19) (j := 6) bd_19_6'
      refine T_useN (e_keep hfu (by rw [o4 _ _ (by decide)]; exact b1) (by rw [o4 _ _ (by decide)]; exact b2) (by rw [o4 _ _ (by decide)]; exact b6)) (fun v s5 hq => ?_)
      obtain ⟨rfl, hk, fk⟩ := hq
      refine T_vN ?_
      refine T_if1 v_ob1 ?_
      refine T_let 6 v_g1_2 ?_
      refine T_if1 v_ob1 ?_
      refine T_let 19 v_g1_3 ?_
      refine T_if1 tx6.1 ?_
      refine T_useN (e_cp9 hfu tx6 tx19 (by omega) (by rw [fk _ _ (by omega), o4 _ _ (by decide)]; exact b19)) (fun v s6 hq => ?_)
      obtain ⟨rfl, te, ft⟩ := hq
      refine T_vN ?_
      refine T_if1 ⟨v_ob1, bl0⟩ ?_
      refine T_up ?_
      refine T_of (fX11_readTape_J68.eq_1 ..) (T_ret ⟨0, s2, rfl, hw, hr, Or.inr ⟨rfl, ?_, z_up_s, ?_, ?_⟩⟩)
      · rw [z_up_j (by decide), ft _ _ (by omega), fk _ _ (by omega), e13]; exact hx0 rfl
      · have q : ∀ a b : Int, 19 ≤ a ∧ a ≤ 31 → s5 a b = s2 a b := fun a b q => by rw [fk _ _ (by omega)]; exact o4 _ _ (by omega)
        obtain ⟨t1, t2, t3, t4⟩ := te
        rw [q _ _ (by omega)] at t1 t2 t3
        refine ⟨by rw [z_up_k (by decide)]; exact t1, by rw [z_up_k (by decide)]; exact t2, by rw [z_up_k (by decide)]; exact t3, fun i p r => ?_⟩
        have z := t4 i p (by rw [q _ _ (by omega)]; exact r)
        rw [q _ _ (by omega), q _ _ (by omega), q _ _ (by omega), q _ _ (by omega), q _ _ (by omega), q _ _ (by omega)] at z
        rw [z_up_k (by decide), z_up_k (by decide), z_up_k (by decide), z_up_k (by decide), z_up_k (by decide), z_up_k (by decide)]
        exact z
      · have e331 : s4 33 1 = s 33 1 := by rw [o4 _ _ (by decide)]; exact fr _ _ (by decide)
        have e332 : s4 33 2 = s 33 2 := by rw [o4 _ _ (by decide)]; exact fr _ _ (by decide)
        have z : ∀ a b : Int, 33 ≤ a ∧ a ≤ 190 → z_up s6 1 16 0 a b = s5 a b := fun a b q => by rw [z_up_k (by omega)]; exact ft _ _ (by omega)
        have z2 : ∀ a b : Int, (6 ≤ a ∧ a ≤ 18) ∨ (33 ≤ a ∧ a ≤ 190) → s4 a b = s a b := fun a b q => by rw [o4 _ _ (by omega)]; exact fr _ _ (by omega)
        rw [o4 _ _ (by decide)] at e331 e332
        obtain ⟨a1, a2, ⟨t1, t2, t3, t4⟩, a4⟩ := hk
        rw [z2 33 1 (by decide)] at a1 t1 t2 t3 t4 a4
        rw [z2 33 2 (by decide)] at a2
        rw [z2 6 _ (by decide)] at t1 t2 t3
        have hb := fr 33 1 (by decide)
        rw [hb] at b1
        refine ⟨by rw [z _ _ (by decide)]; exact a1, by rw [z _ _ (by decide)]; exact a2, ⟨by rw [z _ _ (by omega)]; exact t1, by rw [z _ _ (by omega)]; exact t2, by rw [z _ _ (by omega)]; exact t3, fun i p q => ?_⟩, fun a b p q => by rw [z _ _ (by omega), a4 a b p q]; exact z2 _ _ (by omega)⟩
        rw [z _ _ (by omega), z _ _ (by omega), z _ _ (by omega), z _ _ (by omega), z _ _ (by omega), z _ _ (by omega)]
        have y := t4 i p (by rw [z2 6 _ (by decide)]; exact q)
        rw [z2 (6 + 2) _ (by decide), z2 (6 + 4) _ (by decide), z2 (6 + 6) _ (by decide), z2 (6 + 8) _ (by decide), z2 (6 + 10) _ (by decide), z2 (6 + 12) _ (by decide)] at y
        exact y
  refine T_ite (fun hw0 => ?_) (fun hw0 => ?_)
  · refine T_if1 v_ob1 ?_
    refine T_let 32 v_g1_4 ?_
    refine T_if1 ob32 ?_
    refine T_let (s2 32 7) rfl ?_
    exact fin _ (fun q => absurd q hw0) (fun _ => rfl)
  · exact fin _ (fun _ => rfl) (fun q => absurd q hw0)
/-- text and more: n the number asked for, x the answer; g the numbers before the reader -/
def y_CX (r : z_M) (n : Int) (G : z_M → Prop) (v : z_V) (s' : z_M) : Prop :=
  (¬ (0 ≤ n ∧ n ≤ r 1 12) ∧ v = vX 1 ∧ y_SAME r s' ∧ s' 1 13 = r 1 13) ∨
  ((0 ≤ n ∧ n ≤ r 1 12) ∧ ∃ x w g s2, v = vI x ∧ G g ∧ y_rd (fun i => r 5 i) (y_g0 g) n (vI w) s2 ∧
    ((w ≠ 0 ∧ x = w - 10 ∧ s' 1 13 = s2 32 7 ∧ y_SAME r s') ∨ (w = 0 ∧ x = s' 191 16 ∧ s' 1 13 = -1 ∧ y_TE s2 s' 6 19 ∧ y_HKc r s')) ∧ y_Uu s')
/-- from the tape's reading on -/
theorem e_txEnd {fu : Nat} (hfu : 8589934592 ≤ fu) {r g : z_M} {n : Int} {G : z_M → Prop} (c : z_CI g) (hv : y_V16 r) (hn : 0 ≤ n ∧ n ≤ r 1 12) (hr : r 1 12 ≤ 300) (hG : G g) (f : ∀ a b : Int, ¬ (19 ≤ a ∧ a ≤ 31) → g a b = r a b) {J : Nat → z_M → Int → z_O} (hJ : ∀ fu s x, J fu s x = some (vI x, s)) :
    z_T (z_bI (fX11_readTape fu g 1 n) (fun x6 s5 => if z_ob 1 11 then z_bN (fX11_refresh fu s5 1) (fun s7 => if (x6 : Int) ≠ 0 then (z_let (z_w (x6 - 10)) (fun x8 => J fu s7 x8)) else (if z_ob 1 11 then z_let (z_gr 1 6) (fun x9 => if z_ob x9 10 then z_let (s7 x9 16) (fun x10 => J fu s7 x10) else none) else none)) else none)) (y_CX r n G) := by
  have hr2 : 0 ≤ n ∧ n ≤ 300 := by omega
  refine T_useI (T_and (sf_X11_readTape_1T hfu g c n (by omega) (hv.fr (f _ _ (by decide)) (f _ _ (by decide)) (f _ _ (by decide)) (fun b => f _ b (by decide)) (fun b => f _ b (by decide)) (fun b => f _ b (by decide)) (fun b => f _ b (by decide)) (fun b => f _ b (by decide)) (fun b => f _ b (by decide)) (fun b => f _ b (by decide)))) (e_readTape hfu c hr2)) (fun v s5 hq => ?_)
  obtain ⟨⟨c5, f5, hv5, _⟩, w, s2, rfl, hw, hrd, ce⟩ := hq
  refine T_vI ?_
  refine T_if1 v_ob1 ?_
  refine T_useN (sf_X11_refresh_1T hfu s5 c5 hv5) (fun v s7 hq => ?_)
  obtain ⟨c7, f7, hu, rfl⟩ := hq
  refine T_vN ?_
  have k7 : ∀ a b : Int, (6 ≤ a ∧ a ≤ 18) ∨ (33 ≤ a ∧ a ≤ 190) → s7 a b = s5 a b := fun a b q => f7 a b (by unfold R_X11_refresh_1; omega)
  have k13 : s7 1 13 = s5 1 13 := f7 1 13 (by decide)
  have e5 : (fun i => g 5 i) = fun i => r 5 i := funext fun i => f 5 i (by decide)
  rw [e5] at hrd
  have sg : y_SAME r g := fun a b q => f a b (by omega)
  have b1 := CI_b c (k := 33) (j := 1) bd_33_1'
  rcases ce with ⟨w0, a1, a2, _⟩ | ⟨w0, a1, _, a3, a4⟩
  · refine T_if1 w0 ?_
    refine T_let (w - 10) (z_wid (by unfold z_I; omega)) ?_
    refine T_of (hJ ..) (T_ret (Or.inr ⟨hn, w - 10, w, g, s2, rfl, hG, hrd, Or.inl ⟨w0, rfl, by rw [k13]; exact a1, (sg.tr a2).tr k7⟩, hu⟩))
  · refine T_if0 (fun q => q w0) ?_
    refine T_if1 v_ob1 ?_
    refine T_let 191 v_g1_6 ?_
    refine T_if1 v_ob191 ?_
    refine T_let (s7 191 16) rfl ?_
    refine T_of (hJ ..) (T_ret (Or.inr ⟨hn, s7 191 16, w, g, s2, rfl, hG, hrd, Or.inr ⟨w0, rfl, by rw [k13]; exact a1, a3.to6 (fun a b q => k7 a b (Or.inl q)), ?_⟩, hu⟩))
    have hk := a4.to k7 b1
    obtain ⟨q1, q2, ⟨t1, t2, t3, t4⟩, q4⟩ := hk
    rw [sg 33 1 (by decide)] at q1 t1 t2 t3 t4 q4
    rw [sg 33 2 (by decide)] at q2
    rw [sg 33 1 (by decide)] at b1
    rw [sg 6 _ (by decide)] at t1 t2 t3
    refine ⟨q1, q2, ⟨t1, t2, t3, fun i p q => ?_⟩, fun a b p q => by rw [q4 a b p q]; exact sg _ _ (by omega)⟩
    have y := t4 i p (by rw [sg 6 _ (by decide)]; exact q)
    rw [sg (6 + 2) _ (by decide), sg (6 + 4) _ (by decide), sg (6 + 6) _ (by decide), sg (6 + 8) _ (by decide), sg (6 + 10) _ (by decide), sg (6 + 12) _ (by decide)] at y
    exact y
theorem e_text {fu : Nat} (hfu : 8589934592 ≤ fu) {r : z_M} (c : z_CI r) (hv : y_V16 r) {n : Int} : z_T (fX11_text fu r 1 n) (y_CX r n (fun g => g 19 6 = 0 ∧ g 19 7 = 0 ∧ g 19 8 = 0)) := by
  refine T_of (fX11_text.eq_1 ..) ?_
  refine T_if1 v_ob1 ?_
  refine T_let (r 1 12) rfl ?_
  refine T_if1 v_ob1 ?_
  refine T_nwn (fun h => T_ret (Or.inl ⟨h, rfl, fun a b q => z_up_k (by omega), z_up_j (by decide)⟩)) (fun h0 h1 => ?_)
  refine T_if1 v_ob1 ?_
  refine T_let 19 v_g1_3 ?_
  refine T_if1 ob19 ?_
  refine T_useN (T_and (sf_X9_clear_19 hfu r c) (T_of e_cl9 (T_ret (P := fun v s => s = z_up (z_up (z_up r 19 6 0) 19 7 0) 19 8 0) rfl))) (fun v g hq => ?_)
  obtain ⟨⟨cg, _, rfl⟩, eg⟩ := hq
  refine T_vN ?_
  refine T_if1 v_ob1 ?_
  have b12 := CI_b c (k := 1) (j := 12) bd_1_12'
  refine e_txEnd hfu cg hv ⟨h0, h1⟩ b12.2 ⟨by rw [eg, z_up_j (by decide), z_up_j (by decide), z_up_s], by rw [eg, z_up_j (by decide), z_up_s], by rw [eg, z_up_s]⟩ (fun a b q => by rw [eg, z_up_k (by omega), z_up_k (by omega), z_up_k (by omega)]) (fun fu s x => fX11_text_J45.eq_1 ..)
theorem e_more {fu : Nat} (hfu : 8589934592 ≤ fu) {r : z_M} (c : z_CI r) (hv : y_V16 r) {n : Int} : z_T (fX11_more fu r 1 n) (y_CX r n (fun g => y_TE r g 19 6)) := by
  refine T_of (fX11_more.eq_1 ..) ?_
  refine T_if1 v_ob1 ?_
  refine T_let (r 1 12) rfl ?_
  refine T_if1 v_ob1 ?_
  refine T_nwn (fun h => T_ret (Or.inl ⟨h, rfl, fun a b q => z_up_k (by omega), z_up_j (by decide)⟩)) (fun h0 h1 => ?_)
  refine T_if1 v_ob1 ?_
  refine T_let 19 v_g1_3 ?_
  refine T_if1 v_ob1 ?_
  refine T_let 6 v_g1_2 ?_
  refine T_if1 ob19 ?_
  have b6 := CI_b c (k := 6) (j := 6) bd_6_6
  refine T_useN (T_and (sf_X9_copyFrom_19_6 hfu r c) (e_cp9 hfu tx19 tx6 (by omega) b6)) (fun v g hq => ?_)
  obtain ⟨⟨cg, _, rfl⟩, _, te, fg⟩ := hq
  refine T_vN ?_
  refine T_if1 v_ob1 ?_
  have b12 := CI_b c (k := 1) (j := 12) bd_1_12'
  exact e_txEnd hfu cg hv ⟨h0, h1⟩ b12.2 te (fun a b q => fg a b (by omega)) (fun fu s x => fX11_more_J49.eq_1 ..)
theorem e_takeCIJ {fu : Nat} (hfu : 8589934592 ≤ fu) {s : z_M} {x : Int} (c : z_CI s) (hx : 0 ≤ x ∧ x ≤ 11) : z_T (fX2_takeBack_J38 fu s 33 6 33 x) (fun _ s' => z_CI s') := by
  refine T_of (fX2_takeBack_J38.eq_1 ..) ?_
  refine T_if1 v_ob33 ?_
  refine T_upg c bd_33_1' hx (fun s6 c6 g6 g6b e => ?_)
  refine T_if1 v_ob33 ?_
  refine T_bR (T_of (e_place (by rw [e]; exact hx)) (T_rR ?_))
  rw [e]
  refine T_if1 (by omega) ?_
  refine T_if1 tx6.1 ?_
  have fin : ∀ E : z_O, z_T E (fun v s => z_CI s ∧ v = vN) → z_T (z_bN E (fun s9 => if z_bl 1 then some (vI 1, s9) else none)) (fun _ s' => z_CI s') := fun E h => by
    refine T_useN h (fun v s hq => ?_)
    obtain ⟨cs, rfl⟩ := hq
    refine T_vN ?_
    refine T_if1 bl1 ?_
    exact T_ret cs
  rcases (show x = 0 ∨ x = 1 ∨ x = 2 ∨ x = 3 ∨ x = 4 ∨ x = 5 ∨ x = 6 ∨ x = 7 ∨ x = 8 ∨ x = 9 ∨ x = 10 ∨ x = 11 by omega) with rfl | rfl | rfl | rfl | rfl | rfl | rfl | rfl | rfl | rfl | rfl | rfl
  · exact fin _ (T_mono (sf_X9_copyFrom_6_35 hfu s6 c6) (fun v s h => ⟨h.1, h.2.2⟩))
  · exact fin _ (T_mono (sf_X9_copyFrom_6_48 hfu s6 c6) (fun v s h => ⟨h.1, h.2.2⟩))
  · exact fin _ (T_mono (sf_X9_copyFrom_6_61 hfu s6 c6) (fun v s h => ⟨h.1, h.2.2⟩))
  · exact fin _ (T_mono (sf_X9_copyFrom_6_74 hfu s6 c6) (fun v s h => ⟨h.1, h.2.2⟩))
  · exact fin _ (T_mono (sf_X9_copyFrom_6_87 hfu s6 c6) (fun v s h => ⟨h.1, h.2.2⟩))
  · exact fin _ (T_mono (sf_X9_copyFrom_6_100 hfu s6 c6) (fun v s h => ⟨h.1, h.2.2⟩))
  · exact fin _ (T_mono (sf_X9_copyFrom_6_113 hfu s6 c6) (fun v s h => ⟨h.1, h.2.2⟩))
  · exact fin _ (T_mono (sf_X9_copyFrom_6_126 hfu s6 c6) (fun v s h => ⟨h.1, h.2.2⟩))
  · exact fin _ (T_mono (sf_X9_copyFrom_6_139 hfu s6 c6) (fun v s h => ⟨h.1, h.2.2⟩))
  · exact fin _ (T_mono (sf_X9_copyFrom_6_152 hfu s6 c6) (fun v s h => ⟨h.1, h.2.2⟩))
  · exact fin _ (T_mono (sf_X9_copyFrom_6_165 hfu s6 c6) (fun v s h => ⟨h.1, h.2.2⟩))
  · exact fin _ (T_mono (sf_X9_copyFrom_6_178 hfu s6 c6) (fun v s h => ⟨h.1, h.2.2⟩))
theorem e_takeCI {fu : Nat} (hfu : 8589934592 ≤ fu) {s : z_M} (c : z_CI s) : z_T (fX2_takeBack fu s 33 6) (fun _ s' => z_CI s') := by
  have h := CI_b c (k := 33) (j := 1) bd_33_1'
  have h2 := CI_b c (k := 33) (j := 2) bd_33_2'
  refine T_of (fX2_takeBack.eq_1 ..) ?_
  refine T_if1 v_ob33 ?_
  refine T_let (s 33 2) rfl ?_
  refine T_ite (fun q => ?_) (fun q => ?_)
  · refine T_if1 v_ob33 ?_
    refine T_let (s 33 2) rfl ?_
    refine T_let (s 33 2 - 1) (z_wid (by unfold z_I; omega)) ?_
    refine T_if1 v_ob33 ?_
    refine T_upg c bd_33_2' (by omega) (fun s4 c4 g4 g4b e4 => ?_)
    have e1 : s4 33 1 = s 33 1 := g4b 1 (by decide)
    refine T_if1 v_ob33 ?_
    refine T_let (s 33 1) e1 ?_
    refine T_ite (fun q2 => ?_) (fun q2 => ?_)
    · exact e_takeCIJ hfu c4 ⟨by decide, by decide⟩
    · refine T_if1 v_ob33 ?_
      refine T_let (s 33 1) e1 ?_
      refine T_let (s 33 1 - 1) (z_wid (by unfold z_I; omega)) ?_
      exact e_takeCIJ hfu c4 ⟨by omega, by omega⟩
  · refine T_if1 bl0 ?_
    exact T_ret c
/-- undo -/
def y_CU8 (r : z_M) (v : z_V) (s' : z_M) : Prop := (r 33 2 = 0 ∧ v = vI (-1) ∧ s' = r) ∨ (1 ≤ r 33 2 ∧ ∃ x, v = vI x ∧ x = s' 191 16 ∧ y_HBc r s' ∧ y_Uu s' ∧ s' 1 13 = r 1 13)
theorem e_undo {fu : Nat} (hfu : 8589934592 ≤ fu) {r : z_M} (c : z_CI r) : z_T (fX11_undo fu r 1) (y_CU8 r) := by
  refine T_of (fX11_undo.eq_1 ..) ?_
  refine T_if1 v_ob1 ?_
  refine T_let 33 v_g1_5 ?_
  refine T_if1 v_ob1 ?_
  refine T_let 6 v_g1_2 ?_
  refine T_if1 v_ob33 ?_
  have b1 := CI_b c (k := 33) (j := 1) bd_33_1'
  have b2 := CI_b c (k := 33) (j := 2) bd_33_2'
  refine T_useI (T_and (e_takeBack hfu c b1 b2) (e_takeCI hfu c)) (fun v s3 hq => ?_)
  obtain ⟨h | h, c3⟩ := hq
  · obtain ⟨h0, rfl, rfl⟩ := h
    refine T_vI ?_
    refine T_if0 (by decide) ?_
    exact T_ret (Or.inl ⟨h0, rfl, rfl⟩)
  · obtain ⟨h0, rfl, hb, fb⟩ := h
    refine T_vI ?_
    refine T_if1 (by decide) ?_
    refine T_if1 ⟨v_ob1, bl0⟩ ?_
    refine T_upg c3 bd_1_16 (by omega) (fun s5 c5 g5 g5b e5 => ?_)
    refine T_if1 v_ob1 ?_
    refine T_useN (sf_X11_refresh_1T hfu s5 c5 (Or.inl e5)) (fun v s6 hq => ?_)
    obtain ⟨c6, f6, hu, rfl⟩ := hq
    refine T_vN ?_
    refine T_if1 v_ob1 ?_
    refine T_let 191 v_g1_6 ?_
    refine T_if1 v_ob191 ?_
    refine T_let (s6 191 16) rfl ?_
    have k : ∀ a b : Int, (6 ≤ a ∧ a ≤ 18) ∨ (33 ≤ a ∧ a ≤ 190) → s6 a b = s3 a b := fun a b q => (f6 a b (by unfold R_X11_refresh_1; omega)).trans (g5 a b (by omega))
    obtain ⟨q1, q2, q3, q4⟩ := hb
    refine T_ret (Or.inr ⟨h0, s6 191 16, rfl, rfl, ⟨by rw [k _ _ (by decide)]; exact q1, by rw [k _ _ (by decide)]; exact q2, q3.to6 (fun a b q => k a b (Or.inl q)), fun a b q => by rw [k _ _ (by omega)]; exact q4 a b q⟩, hu, ?_⟩)
    rw [f6 1 13 (by decide), g5b 13 (by decide)]
    exact fb _ _ (by decide) (by decide)
/-- cut; sr the numbers when the units are fresh -/
def y_CCT (r : z_M) (a b : Int) (v : z_V) (s' : z_M) : Prop := ∃ sr, z_CI sr ∧ y_Uu sr ∧ (∀ c d : Int, (6 ≤ c ∧ c ≤ 190) ∨ (c = 1 ∧ d = 13) → sr c d = r c d) ∧ s' 1 13 = r 1 13 ∧
  ((v = vX 0 ∧ ¬ (0 ≤ a ∧ a < sr 191 16 ∧ 0 ≤ b ∧ b < sr 191 16) ∧ y_SAME r s') ∨
   (v = vX 1 ∧ (0 ≤ a ∧ a < sr 191 16 ∧ 0 ≤ b ∧ b < sr 191 16) ∧ b < a ∧ y_SAME r s') ∨
   ((0 ≤ a ∧ a < sr 191 16 ∧ 0 ≤ b ∧ b < sr 191 16) ∧ a ≤ b ∧ ∃ x, v = vI x ∧ x = s' 191 16 ∧ y_DR sr s' (sr 195 a) (sr 195 b + sr 197 b) ∧ y_HKc sr s' ∧ y_Uu s'))
theorem y_DR.to {r s s' : z_M} {A B : Int} (h : y_DR r s A B) (f : ∀ a b : Int, 6 ≤ a ∧ a ≤ 18 → s' a b = s a b) : y_DR r s' A B := by
  obtain ⟨a1, a2, a3, a4⟩ := h
  refine ⟨by rw [f _ _ (by decide)]; exact a1, by rw [f _ _ (by decide)]; exact a2, by rw [f _ _ (by decide)]; exact a3, fun j hj => ?_⟩
  rw [f _ _ (by decide), f _ _ (by decide), f _ _ (by decide), f _ _ (by decide), f _ _ (by decide), f _ _ (by decide)]
  exact a4 j hj
theorem y_DR.fr {r r' s : z_M} {A B : Int} (h : y_DR r s A B) (f : ∀ a b : Int, 6 ≤ a ∧ a ≤ 18 → r a b = r' a b) : y_DR r' s A B := by
  unfold y_DR at *
  have e12 : (fun i => r 12 (y_sc A B i)) = fun i => r' 12 (y_sc A B i) := funext fun i => f _ _ (by decide)
  rw [f 6 6 (by decide), f 6 8 (by decide), e12] at h
  obtain ⟨a1, a2, a3, a4⟩ := h
  refine ⟨a1, a2, a3, fun j hj => ?_⟩
  have q := a4 j hj
  rw [f 8 _ (by decide), f 10 _ (by decide), f 14 _ (by decide), f 16 _ (by decide), f 18 _ (by decide)] at q
  exact q
theorem e_cut {fu : Nat} (hfu : 8589934592 ≤ fu) {r : z_M} (c : z_CI r) (hv : y_V16 r) {a b : Int} : z_T (fX11_cut fu r 1 a b) (y_CCT r a b) := by
  refine T_of (fX11_cut.eq_1 ..) ?_
  refine T_if1 v_ob1 ?_
  refine T_useN (sf_X11_refresh_1T hfu r c hv) (fun v sr hq => ?_)
  obtain ⟨cr, fr, hu, rfl⟩ := hq
  refine T_vN ?_
  have kr : ∀ c d : Int, (6 ≤ c ∧ c ≤ 190) ∨ (c = 1 ∧ d = 13) → sr c d = r c d := fun c d q => fr c d (by unfold R_X11_refresh_1; omega)
  have sm : ∀ s' : z_M, (∀ c d : Int, (6 ≤ c ∧ c ≤ 190) → s' c d = sr c d) → y_SAME r s' := fun s' k c d q => (k c d (by omega)).trans (kr c d (by omega))
  refine T_if1 v_ob1 ?_
  refine T_let 191 v_g1_6 ?_
  refine T_if1 v_ob191 ?_
  refine T_let (sr 191 16) rfl ?_
  refine T_if1 v_ob1 ?_
  refine T_nen (fun h => T_ret ⟨sr, cr, hu, kr, (z_up_j (by decide)).trans (kr 1 13 (by decide)), Or.inl ⟨rfl, fun q => h ⟨q.1, q.2.1⟩, sm _ (fun c d q => z_up_k (by omega))⟩⟩) (fun ha0 ha1 => ?_)
  refine T_if1 v_ob1 ?_
  refine T_let 191 v_g1_6 ?_
  refine T_if1 v_ob191 ?_
  refine T_let (sr 191 16) rfl ?_
  refine T_if1 v_ob1 ?_
  refine T_nen (fun h => T_ret ⟨sr, cr, hu, kr, (z_up_j (by decide)).trans (kr 1 13 (by decide)), Or.inl ⟨rfl, fun q => h q.2.2, sm _ (fun c d q => z_up_k (by omega))⟩⟩) (fun hb0 hb1 => ?_)
  refine T_if1 v_ob1 ?_
  refine T_let 191 v_g1_6 ?_
  refine T_if1 v_ob191 ?_
  refine T_let (sr 191 16) rfl ?_
  refine T_if1 v_ob1 ?_
  refine T_nwn (fun h => T_ret ⟨sr, cr, hu, kr, (z_up_j (by decide)).trans (kr 1 13 (by decide)), Or.inr (Or.inl ⟨rfl, ⟨ha0, ha1, hb0, hb1⟩, by omega, sm _ (fun c d q => z_up_k (by omega))⟩)⟩) (fun hab _ => ?_)
  refine T_if1 v_ob1 ?_
  refine T_let 33 v_g1_5 ?_
  refine T_if1 v_ob1 ?_
  refine T_let 6 v_g1_2 ?_
  refine T_if1 v_ob33 ?_
  have b1 := CI_b cr (k := 33) (j := 1) bd_33_1'
  have b2 := CI_b cr (k := 33) (j := 2) bd_33_2'
  have b6 := CI_b cr (k := 6) (j := 6) bd_6_6
  have bu := CI_b cr (k := 191) (j := 16) bd_191_16
  refine T_useN (T_and (sf_X2_keep_33_6 hfu sr cr) (e_keep hfu b1 b2 b6)) (fun v s3 hq => ?_)
  obtain ⟨⟨c3, _, rfl⟩, _, hk, f3⟩ := hq
  refine T_vN ?_
  have ua := hu.1.1 a ha0 ha1
  have ub := hu.1.1 b hb0 hb1
  have uab := hu.1.2 a b ha0 hab hb1
  refine T_if1 v_ob1 ?_
  refine T_let 6 v_g1_2 ?_
  refine T_if1 v_ob1 ?_
  refine T_let 191 v_g1_6 ?_
  refine T_if1 v_ob191 ?_
  refine T_let 194 v_g3 ?_
  refine T_if1 v_rw194.1 ?_
  refine T_bI (T_of ((e_get v_rw194).trans (by rw [v_rg v_c194 v_l194 ⟨ha0, by omega⟩, f3 _ _ (by decide)])) (T_rI ?_))
  refine T_if1 v_ob1 ?_
  refine T_let 191 v_g1_6 ?_
  refine T_if1 v_ob191 ?_
  refine T_let 194 v_g3 ?_
  refine T_if1 v_rw194.1 ?_
  refine T_bI (T_of ((e_get v_rw194).trans (by rw [v_rg v_c194 v_l194 ⟨hb0, by omega⟩, f3 _ _ (by decide)])) (T_rI ?_))
  refine T_if1 v_ob1 ?_
  refine T_let 191 v_g1_6 ?_
  refine T_if1 v_ob191 ?_
  refine T_let 196 v_g4 ?_
  refine T_if1 v_rw196.1 ?_
  refine T_bI (T_of ((e_get v_rw196).trans (by rw [v_rg v_c196 v_l196 ⟨hb0, by omega⟩, f3 _ _ (by decide)])) (T_rI ?_))
  refine T_let (sr 195 b + sr 197 b) (z_wid (by unfold z_I; omega)) ?_
  refine T_if1 tx6.1 ?_
  have e66 : s3 6 6 = sr 6 6 := f3 _ _ (by decide)
  refine T_useN (T_and (sf_X9_drop_6 hfu s3 c3 _ _ (by omega) (by omega) (by omega) (by omega) (by omega)) (e_drop hfu (A := sr 195 a) (B := sr 195 b + sr 197 b) (by omega) (by omega))) (fun v s4 hq => ?_)
  obtain ⟨⟨c4, _, rfl⟩, _, hd, f4⟩ := hq
  refine T_vN ?_
  refine T_if1 ⟨v_ob1, bl0⟩ ?_
  refine T_upg c4 bd_1_16 (by omega) (fun s5 c5 g5 g5b e5 => ?_)
  refine T_if1 v_ob1 ?_
  refine T_useN (sf_X11_refresh_1T hfu s5 c5 (Or.inl e5)) (fun v s6 hq => ?_)
  obtain ⟨c6, f6, hu6, rfl⟩ := hq
  refine T_vN ?_
  refine T_if1 v_ob1 ?_
  refine T_let 191 v_g1_6 ?_
  refine T_if1 v_ob191 ?_
  refine T_let (s6 191 16) rfl ?_
  have k : ∀ a b : Int, (6 ≤ a ∧ a ≤ 18) ∨ (33 ≤ a ∧ a ≤ 190) → s6 a b = s4 a b := fun a b q => (f6 a b (by unfold R_X11_refresh_1; omega)).trans (g5 a b (by omega))
  refine T_ret ⟨sr, cr, hu, kr, ?_, Or.inr (Or.inr ⟨⟨ha0, ha1, hb0, hb1⟩, hab, s6 191 16, rfl, rfl, ?_, ?_, hu6⟩)⟩
  · rw [f6 1 13 (by decide), g5b 13 (by decide), f4 _ _ (by decide), f3 _ _ (by decide)]
    exact kr _ _ (by decide)
  · exact (hd.fr (fun a b q => f3 a b (by omega))).to (fun a b q => k a b (Or.inl q))
  · obtain ⟨q1, q2, ⟨t1, t2, t3, t4⟩, q4⟩ := hk
    have w : ∀ a b : Int, 33 ≤ a ∧ a ≤ 190 → s6 a b = s3 a b := fun a b q => (k a b (Or.inr q)).trans (f4 a b (by omega))
    refine ⟨by rw [w _ _ (by decide)]; exact q1, by rw [w _ _ (by decide)]; exact q2, ⟨by rw [w _ _ (by omega)]; exact t1, by rw [w _ _ (by omega)]; exact t2, by rw [w _ _ (by omega)]; exact t3, fun i p q => ?_⟩, fun a b p q => by rw [w _ _ (by omega)]; exact q4 a b p q⟩
    rw [w _ _ (by omega), w _ _ (by omega), w _ _ (by omega), w _ _ (by omega), w _ _ (by omega), w _ _ (by omega)]
    exact t4 i p q
