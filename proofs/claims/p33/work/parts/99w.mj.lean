/-! both sides of the sides are the same -/
theorem y_LEq.cv {g s : z_M} (e : y_LEq g s) (b : y_BT g s) (ok : y_OKy s) (lm : y_LBm (y_dm s) s) {d l x : Int} (hd : d = 0 ∨ d = 1) (l0 : 0 ≤ l) (l1 : l < g 240 6) (f0 : 0 ≤ y_fs g l ∧ y_fs g (l + 1) ≤ g 6 6) : y_CCc g d l x ↔ y_CVV s d l x := by
  obtain ⟨e1, e2⟩ := e.bm l0 l1
  have l1' : l < s 309 44 := by rw [← e.1.1]; exact l1
  have m0 := lm.mono l.toNat 0 l (by omega) (Int.le_refl _) (by omega)
  have z0 : y_bm s 0 = 0 := y_su0
  have m1 := lm.mono (s 309 44 - (l + 1)).toNat (l + 1) (s 309 44) (by omega) (by omega) (Int.le_refl _)
  have e58 : s 309 58 = y_bm s (s 309 44) := lm.e58
  have e9 := e.2.2.2.2.1
  have a := e.fs b l0 (by omega) (by omega)
  have a2 := e.fs b (l := l + 1) (by omega) (by omega) (by omega)
  have mk : ∀ j : Int, 0 ≤ j → j < s 316 0 → y_mk g d j = y_ms s d j ∧ g 268 j = s 3443 j := fun j p q => by
    obtain ⟨U, X, p', c, cg, st⟩ := b
    exact ⟨y_mk_eq X U p' (by have := y_n0 c; omega) (y_n1 c).2 hd p q, e.2.2.2.1 j p q⟩
  have n0 : g 6 6 = s 316 0 := b.2.1.1.n0
  unfold y_CCc y_CVV y_CK y_CL2 y_CSc y_CM2
  rw [a, a2, e1, e2]
  rw [a, a2] at f0
  constructor
  · intro r
    rcases r with ⟨k, j, p, q, r⟩ | ⟨j, p, q, r⟩
    · have el := e.lt (k := k) (d := d) (by omega) (by omega) hd
      have ep := e.pf (k := k) (d := d) (i := j) (by omega) (by omega) hd
      have ep : y_fp g k d j = y_gpp s k d j := ep
      rw [el] at q
      rw [ep] at r
      exact Or.inl ⟨k, j, by omega, lm.lu ok (k := k) (by omega) (by omega) l0 l1' p.1 p.2, q, r⟩
    · obtain ⟨m, c⟩ := mk j (by omega) (by omega)
      rw [m] at q
      rw [c] at r
      exact Or.inr ⟨j, p, q, r⟩
  · intro r
    rcases r with ⟨k, j, p, q, t, r⟩ | ⟨j, p, q, r⟩
    · have lk := lm.lk ok (k := k) p.1 p.2
      rw [q] at lk
      have el := e.lt (k := k) (d := d) p.1 (by omega) hd
      have ep := e.pf (k := k) (d := d) (i := j) p.1 (by omega) hd
      have ep : y_fp g k d j = y_gpp s k d j := ep
      exact Or.inl ⟨k, j, ⟨lk.2.1, lk.2.2.1⟩, by rw [el]; exact t, by rw [ep]; exact r⟩
    · obtain ⟨m, c⟩ := mk j (by omega) (by omega)
      exact Or.inr ⟨j, p, by rw [m]; exact q, by rw [c]; exact r⟩
/-- gutters, outer sides, meeting places -/
theorem y_BT.sd {s s' sr ss : z_M} (b : y_BT sr s) (ok : y_OKc sr) (yc : y_YC sr) (h : y_RM s s') (rb : y_RBd s') (sd : y_SDd sr ss) : ss 240 6 = s' 309 44 ∧ (∀ i : Int, 0 ≤ i → i < s' 309 44 → ss 306 i = y_om s' 0 i ∧ ss 308 i = y_om s' 1 i) ∧ (∀ i : Int, 0 ≤ i → i + 1 < s' 309 44 → ss 302 i = y_Gm s' i) ∧ ∀ i : Int, 0 ≤ i → i < s' 309 44 → y_Mz (y_bth s' i) (ss 300 i) := by
  obtain ⟨e, b'⟩ := b.le ok yc h
  obtain ⟨_, _, ys, fr, _⟩ := sd
  have lc := yc ok
  have okm := rb.2.1
  have lm := rb.2.2.1
  have e6 : ss 240 6 = sr 240 6 := fr 240 6 (by decide) (by omega)
  have e44 := e.1.1
  have c6 := CI_b b.2.2.2.2.1 (k := 6) (j := 6) bd_6_6
  have fz : ∀ a b : Int, y_cz a b → ss a b = sr a b := fun a b q => fr a b (by unfold y_cz at q; omega) (by unfold y_cz at q; omega)
  have nn : ∀ i d : Int, (d = 0 ∨ d = 1) → 0 ≤ i → i < sr 240 6 → y_nnc sr d i = y_n2d s' d i := fun i d hd p q => by
    obtain ⟨f1, f2⟩ := ok.fs lc c6 p q
    have a1 := e.mks b' p q hd ⟨f2.1, f2.2.2⟩
    have a2 := y_cl_e okm lm (d := d) p (by rw [← e44]; exact q)
    obtain ⟨e1, e2⟩ := e.bm p q
    have m0 := lm.mono i.toNat 0 i (by omega) (Int.le_refl _) (by omega)
    have z0 : y_bm s' 0 = 0 := y_su0
    have m1 := lm.mono (s' 309 44 - (i + 1)).toNat (i + 1) (s' 309 44) (by omega) (by omega) (Int.le_refl _)
    have e58 : s' 309 58 = y_bm s' (s' 309 44) := lm.e58
    have e9 := e.2.2.2.2.1
    unfold y_nnc y_n2d
    rw [a1, a2, e1, e2]
    rw [y_su_cg (f := y_cnn sr d) (g := y_mn s' d) (fun k x y => e.lt (by omega) (by omega) hd)]
  have ou : ∀ i d : Int, (d = 0 ∨ d = 1) → 0 ≤ i → i < sr 240 6 → y_ou ss d i = y_om s' d i := fun i d hd p q => by
    rw [y_ou_fr fz d i]
    unfold y_ou y_om
    rw [nn i d hd p q]
  have cv : ∀ i d x : Int, (d = 0 ∨ d = 1) → 0 ≤ i → i < sr 240 6 → (y_CCc ss d i x ↔ y_CVV s' d i x) := fun i d x hd p q => by
    obtain ⟨f1, f2⟩ := ok.fs lc c6 p q
    exact (y_CCc_fr fz d i x).trans (e.cv b' okm lm hd p q ⟨f2.1, f2.2.2⟩)
  have mz : ∀ i : Int, 0 ≤ i → i < s' 309 44 → y_Mz (y_bth s' i) (ss 300 i) := fun i p q => by
    have m := (ys.1 i p (by omega)).2.1
    rcases m with ⟨a, c⟩ | ⟨a, c, m1, m2, m3⟩
    · refine Or.inl ⟨a, fun v r => ?_⟩
      have rr := y_CVV_b rb.1 okm lm rb.2.2.2.2.1 rb.2.2.2.2.2.2 p q (Or.inr rfl) r.2.1
      exact c v rr (by have := r.1; omega) ((cv i 1 v (Or.inr rfl) p (by omega)).mpr r.2.1) ((cv (i + 1) 0 v (Or.inl rfl) (by omega) (by have := r.1; omega)).mpr r.2.2)
    · refine Or.inr ⟨⟨by omega, (cv i 1 _ (Or.inr rfl) p (by omega)).mp m1, (cv (i + 1) 0 _ (Or.inl rfl) (by omega) (by omega)).mp m2⟩, fun v r => ?_⟩
      have rr := y_CVV_b rb.1 okm lm rb.2.2.2.2.1 rb.2.2.2.2.2.2 p q (Or.inr rfl) r.2.1
      exact m3 v rr ((cv i 1 v (Or.inr rfl) p (by omega)).mpr r.2.1) ((cv (i + 1) 0 v (Or.inl rfl) (by omega) (by have := r.1; omega)).mpr r.2.2)
  have oo : ∀ i : Int, 0 ≤ i → i < s' 309 44 → ss 306 i = y_om s' 0 i ∧ ss 308 i = y_om s' 1 i := fun i p q => by
    obtain ⟨⟨a1, a2⟩, _⟩ := ys.1 i p (by omega)
    rw [a1, a2]
    exact ⟨ou i 0 (Or.inl rfl) p (by omega), ou i 1 (Or.inr rfl) p (by omega)⟩
  refine ⟨e6.trans e44, oo, fun i p q => ?_, mz⟩
  have g := ((ys.1 i p (by omega)).2.2.1 (by omega)).1
  have m := mz i p (by omega)
  have e8 : ss 3 8 = s' 312 8 := (fr 3 8 (by decide) (by omega)).trans (b'.2.2.2.2.2 8)
  have o1 := (oo i p (by omega)).2
  have o0 := (oo (i + 1) (by omega) q).1
  have n1 := rb.n2 (d := 1) (l := i) (Or.inr rfl) p (by omega)
  have n0 := rb.n2 (d := 0) (l := i + 1) (Or.inl rfl) (by omega) q
  have zm := z_maxb (ss 308 i) (ss 306 (i + 1))
  unfold y_gtt at g
  rw [g, e8]
  by_cases ex : ∃ x, y_bth s' i x
  · rw [y_Gm1 ex]
    rw [if_neg (fun z => ?_)]
    obtain ⟨x, r⟩ := ex
    rcases m with ⟨_, c⟩ | ⟨a, _⟩
    · exact c x r
    · rw [z] at a
      have rr := y_CVV_b rb.1 okm lm rb.2.2.2.2.1 rb.2.2.2.2.2.2 p (by omega) (Or.inr rfl) a.2.1
      unfold y_ra at rr
      omega
  · rw [y_Gm0 ex]
    have z : ss 300 i = -1000 := by
      rcases m with ⟨a, _⟩ | ⟨a, _⟩
      · exact a
      · exact absurd ⟨_, a⟩ ex
    rw [if_pos z]
    unfold y_om at o1 o0
    congr 1
    by_cases c1 : y_n2d s' 1 i ≤ 0
    · rw [if_pos c1] at o1
      by_cases c0 : y_n2d s' 0 (i + 1) ≤ 0
      · rw [if_pos c0] at o0
        rw [if_pos (by omega)]
        omega
      · rw [if_neg c0] at o0
        rw [if_neg (by omega)]
        omega
    · rw [if_neg c1] at o1
      rw [if_neg (by omega)]
      by_cases c0 : y_n2d s' 0 (i + 1) ≤ 0
      · rw [if_pos c0] at o0
        omega
      · rw [if_neg c0] at o0
        omega
theorem y_Mz.eq {S : Int → Prop} {x y : Int} (h : y_Mz S x) (h' : y_Mz S y) : x = y := by
  rcases h with ⟨a, b⟩ | ⟨a, b⟩
  · rcases h' with ⟨c, d⟩ | ⟨c, d⟩
    · rw [a, c]
    · exact absurd c (b y)
  · rcases h' with ⟨c, d⟩ | ⟨c, d⟩
    · exact absurd a (d x)
    · have := b y c
      have := d x a
      omega
section Q6
variable {sr ss s s' : z_M} {p q k x y : Int}
theorem q_gutter (b : y_BT sr s) (ok : y_OKc sr) (yc : y_YC sr) (h : y_RM s s') (rb : y_RBd s') (hp : 0 ≤ p ∧ p < s' 309 44) (r : ∃ ss, y_SDd sr ss ∧ x = if p = sr 240 6 - 1 then -1 else ss 302 p) (r' : y = if p = s' 309 44 - 1 then -1 else y_Gm s' p) : x = y := by
  obtain ⟨ss, sd, r⟩ := r
  obtain ⟨e6, _, eg, _⟩ := b.sd ok yc h rb sd
  have e : ss 240 6 = sr 240 6 := y_YSs.k sd
  rw [r, r', ← e, e6]
  by_cases z : p = s' 309 44 - 1
  · rw [if_pos z, if_pos z]
  · rw [if_neg z, if_neg z, eg p hp.1 (by omega)]
theorem q_clash (b : y_BT sr s) (ok : y_OKc sr) (yc : y_YC sr) (h : y_RM s s') (rb : y_RBd s') (hp : 0 ≤ p ∧ p < s' 309 44) (r : ∃ ss, y_SDd sr ss ∧ x = ss 300 p) (r' : y_Mz (y_bth s' p) y) : x = y := by
  obtain ⟨ss, sd, rfl⟩ := r
  obtain ⟨_, _, _, m⟩ := b.sd ok yc h rb sd
  exact (m p hp.1 hp.2).eq r'
theorem y_Tc_eq (b : y_BT sr s) (ok : y_OKc sr) (yc : y_YC sr) (h : y_RM s s') (rb : y_RBd s') (sd : y_SDd sr ss) : ss 240 6 = s' 309 44 ∧ ∀ a c : Int, 0 ≤ a → a ≤ c → c < s' 309 44 → y_Tc ss a c = y_Tm s' a c := by
  obtain ⟨e6, eo, eg, _⟩ := b.sd ok yc h rb sd
  exact ⟨e6, fun a c p0 p1 p2 => y_THi_cg p0 p1 p2 eg (fun i p q => (eo i p q).1) (fun i p q => (eo i p q).2)⟩
theorem q_thick (b : y_BT sr s) (ok : y_OKc sr) (yc : y_YC sr) (h : y_RM s s') (rb : y_RBd s') (hp : (0 ≤ p ∧ p < s' 309 44) ∧ 0 ≤ q ∧ q < s' 309 44) (hpq : p ≤ q) (r : ∃ ss, y_SDd sr ss ∧ x = y_Tc ss p q) (r' : y = y_Tm s' p q) : x = y := by
  obtain ⟨ss, sd, rfl⟩ := r
  rw [r', (y_Tc_eq b ok yc h rb sd).2 p q hp.1.1 hpq hp.2.2]
theorem y_pge_eq {T T' : Int → Int → Int} {N v : Int} (e : ∀ a c : Int, 0 ≤ a → a ≤ c → c < N → T a c = T' a c) : ∀ a : Int, 0 ≤ a → a < N → y_pge T N v a = y_pge T' N v a := fun a p q => y_pge_cg q (fun j x y => e a j p (by omega) y)
theorem y_pgc_eq {T T' : Int → Int → Int} {N v : Int} (e : ∀ a c : Int, 0 ≤ a → a ≤ c → c < N → T a c = T' a c) : y_pgc (y_pge T N v) N 0 = y_pgc (y_pge T' N v) N 0 := y_pgc_cg (fun a => y_pge_l) (fun a => y_pge_l) (y_pge_eq e) N.toNat 0 (by omega) (Int.le_refl _)
theorem q_pages (b : y_BT sr s) (ok : y_OKc sr) (yc : y_YC sr) (h : y_RM s s') (rb : y_RBd s') (r : ∃ ss, y_SDd sr ss ∧ x = y_pgc (y_pge (y_Tc ss) (ss 240 6) p) (ss 240 6) 0) (r' : y = y_pgc (y_pge (y_Tm s') (s' 309 44) p) (s' 309 44) 0) : x = y := by
  obtain ⟨ss, sd, rfl⟩ := r
  obtain ⟨e6, eT⟩ := y_Tc_eq b ok yc h rb sd
  rw [r', e6]
  exact y_pgc_eq eT
theorem y_ps_eq {T T' : Int → Int → Int} {N v : Int} (e : ∀ a c : Int, 0 ≤ a → a ≤ c → c < N → T a c = T' a c) : ∀ j : Nat, (∀ i : Nat, i < j → y_ps (y_pge T N v) i < N) → y_ps (y_pge T N v) j = y_ps (y_pge T' N v) j := by
  have hE : ∀ a : Int, a ≤ y_pge T N v a := fun a => y_pge_l
  intro j
  induction j with
  | zero => intro _; rfl
  | succ j ih =>
    intro h
    have i := ih (fun i p => h i (by omega))
    have l := y_ps_l hE j
    rw [y_ps_s, y_ps_s, ← i, y_pge_eq e _ (by omega) (h j (by omega))]
theorem q_page (b : y_BT sr s) (ok : y_OKc sr) (yc : y_YC sr) (h : y_RM s s') (rb : y_RBd s') (r : ∃ ss, y_SDd sr ss ∧ y_PGv (y_Tc ss) (ss 240 6) p k q x) (r' : y_PGv (y_Tm s') (s' 309 44) p k q y) : x = y := by
  obtain ⟨ss, sd, r⟩ := r
  obtain ⟨e6, eT⟩ := y_Tc_eq b ok yc h rb sd
  rw [e6] at r
  have ec := y_pgc_eq (v := p) eT
  have hE : ∀ a : Int, a ≤ y_pge (y_Tc ss) (s' 309 44) p a := fun a => y_pge_l
  rcases r with ⟨a, c⟩ | ⟨j, a, c, d⟩
  · rcases r' with ⟨a', c'⟩ | ⟨j', a', c', d'⟩
    · rw [c, c']
    · exact absurd ⟨by omega, by omega⟩ a
  · rcases r' with ⟨a', c'⟩ | ⟨j', a', c', d'⟩
    · exact absurd ⟨by omega, by omega⟩ a'
    · have ej : j' = j := by omega
      subst ej
      have lt := (y_ps_lt (E := y_pge (y_Tc ss) (s' 309 44) p) (N := s' 309 44) hE j').mpr (by omega)
      have es := y_ps_eq (v := p) eT j' (fun i q => by
        have := y_ps_m hE (j' - i) i
        rw [show i + (j' - i) = j' by omega] at this
        omega)
      have l := y_ps_l hE j'
      have ee := y_pge_eq (v := p) eT _ (by omega) lt
      have pe := (y_pge_p (T := y_Tc ss) (N := s' 309 44) (w := p) (a := y_ps (y_pge (y_Tc ss) (s' 309 44) p) j') lt).1
      have hl := hE (y_ps (y_pge (y_Tc ss) (s' 309 44) p) j')
      rw [d, d', ← es, ← ee, eT _ _ (by omega) hl pe]
theorem q_narrow (b : y_BT sr s) (ok : y_OKc sr) (yc : y_YC sr) (h : y_RM s s') (rb : y_RBd s') (r : ∃ ss, y_SDd sr ss ∧ y_nrw (fun v => y_pgc (y_pge (y_Tc ss) (ss 240 6) v) (ss 240 6) 0) p x) (r' : y_nrw (fun v => y_pgc (y_pge (y_Tm s') (s' 309 44) v) (s' 309 44) 0) p y) : x = y := by
  obtain ⟨ss, sd, r⟩ := r
  obtain ⟨e6, eT⟩ := y_Tc_eq b ok yc h rb sd
  rw [e6] at r
  exact r.eq (fun v _ _ => y_pgc_eq eT) r'
end Q6
