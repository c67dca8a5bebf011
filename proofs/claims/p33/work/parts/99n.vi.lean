/-! the class's sides: what is painted, what is found -/
theorem w_r297 : z_rw 297 ∧ z_gr 297 0 = 298 ∧ z_ln 297 = 12000 := by decide +kernel
theorem w_r299 : z_rw 299 ∧ z_gr 299 0 = 300 ∧ z_ln 299 = 200 := by decide +kernel
theorem w_r301 : z_rw 301 ∧ z_gr 301 0 = 302 ∧ z_ln 301 = 200 := by decide +kernel
theorem w_r303 : z_rw 303 ∧ z_gr 303 0 = 304 ∧ z_ln 303 = 201 := by decide +kernel
theorem w_r305 : z_rw 305 ∧ z_gr 305 0 = 306 ∧ z_ln 305 = 200 := by decide +kernel
theorem w_r307 : z_rw 307 ∧ z_gr 307 0 = 308 ∧ z_ln 307 = 200 := by decide +kernel
theorem w_r257 : z_rw 214 ∧ z_gr 214 0 = 215 ∧ z_ln 214 = 200 := by decide +kernel
section TO
variable {P : z_V → z_M → Prop} {fu : Nat} {s : z_M} {k c i n v : Int}
theorem T_putO {f : z_M → z_O} (hr : z_rw k ∧ z_gr k 0 = c ∧ z_ln k = n) (h : ¬ (0 ≤ i ∧ i < n)) (kk : z_T (f s) P) : z_T (z_bN (fX7_put fu s k i v) f) P :=
  T_bN (T_of ((e_put hr.1).trans (by unfold z_rp; rw [hr.2.2, if_neg h])) (T_rN kk))
theorem T_getA {f : Int → z_M → z_O} (hr : z_rw k ∧ z_gr k 0 = c ∧ z_ln k = n) (kk : ∀ x : Int, (0 ≤ i ∧ i < n → x = s c i) → (¬ (0 ≤ i ∧ i < n) → x = 0) → z_T (f x s) P) : z_T (z_bI (fX7_get fu s k i) f) P := by
  refine T_bI (T_of (e_get hr.1) (T_rI ?_))
  refine kk _ (fun h => ?_) (fun h => ?_)
  · unfold z_rg
    rw [hr.2.2, if_pos h, hr.2.1]
  · unfold z_rg
    rw [hr.2.2, if_neg h]
end TO
abbrev y_ra (x : Int) : Prop := -100 ≤ x ∧ x < 11900
/-- s is sB but for paint: places of S have colour c -/
def y_PA (sB s : z_M) (c : Int) (S : Int → Prop) : Prop := (∀ a b : Int, a ≠ 298 → s a b = sB a b) ∧ ∀ x : Int, (y_ra x ∧ S x → s 298 (x + 100) = c) ∧ (¬ (y_ra x ∧ S x) → s 298 (x + 100) = sB 298 (x + 100))
theorem y_PA.cg {sB s : z_M} {c : Int} {S S' : Int → Prop} (h : y_PA sB s c S) (e : ∀ x : Int, S x ↔ S' x) : y_PA sB s c S' := ⟨h.1, fun x => ⟨fun r => (h.2 x).1 ⟨r.1, (e x).mpr r.2⟩, fun r => (h.2 x).2 (fun q => r ⟨q.1, (e x).mp q.2⟩)⟩⟩
theorem T_paint {P : z_V → z_M → Prop} {fu : Nat} {sB s : z_M} {c p : Int} {S : Int → Prop} {f : z_M → z_O} (h : y_PA sB s c S) (kk : ∀ s' : z_M, y_PA sB s' c (fun x => S x ∨ x = p) → z_T (f s') P) : z_T (z_bN (fX7_put fu s 297 (p + 100) c) f) P := by
  by_cases r : y_ra p
  · refine T_putG w_r297 (by unfold y_ra at r; omega) (fun s' a fr => kk s' ⟨fun a b q => (fr a b (fun z => q z.1)).trans (h.1 a b q), fun x => ⟨fun q => ?_, fun q => ?_⟩⟩)
    · by_cases z : x = p
      · rw [z]; exact a
      · rw [fr 298 (x + 100) (by omega)]
        exact (h.2 x).1 ⟨q.1, q.2.resolve_right z⟩
    · by_cases z : x = p
      · exact absurd ⟨by rw [z]; exact r, Or.inr z⟩ q
      · rw [fr 298 (x + 100) (by omega)]
        exact (h.2 x).2 (fun t => q ⟨t.1, Or.inl t.2⟩)
  · refine T_putO w_r297 (by unfold y_ra at r; omega) (kk s ⟨h.1, fun x => ⟨fun q => ?_, fun q => ?_⟩⟩)
    · refine (h.2 x).1 ⟨q.1, q.2.resolve_right (fun z => r ?_)⟩
      rw [← z]; exact q.1
    · exact (h.2 x).2 (fun t => q ⟨t.1, Or.inl t.2⟩)
theorem e_spanP {fu : Nat} (hfu : 8589934592 ≤ fu) {sB s : z_M} {c p n : Int} {S : Int → Prop} (h : y_PA sB s c S) (hc : sB 296 9 = c) (hp : -1000000000 ≤ p ∧ p ≤ 1000000000) (hn : 0 ≤ n ∧ n ≤ 6) : z_T (fX8_span fu s 296 p n 1) (fun v s' => v = vI 2147483647 ∧ y_PA sB s' c (fun x => S x ∨ (p ≤ x ∧ x < p + n))) := by
  have go : ∀ (m F : Nat) (s : z_M) (i : Int), (m : Int) = p + n - i → m < F → p ≤ i → y_PA sB s c (fun x => S x ∨ (p ≤ x ∧ x < i)) → z_T (fX8_span_L3 fu 296 p n 1 F s i (fun s12 => some (vI 2147483647, s12))) (fun v s' => v = vI 2147483647 ∧ y_PA sB s' c (fun x => S x ∨ (p ≤ x ∧ x < p + n))) := by
    intro m
    induction m with
    | zero =>
      intro F s i e hF h2 g
      obtain ⟨F, rfl⟩ : ∃ F2, F = F2 + 1 := ⟨F - 1, by omega⟩
      have ei : i = p + n := by omega
      refine T_of (fX8_span_L3.eq_2 ..) ?_
      refine T_let (p + n) (v_wid (by omega)) ?_
      refine T_if1 (by omega) ?_
      rw [ei] at g
      exact T_ret ⟨rfl, g⟩
    | succ m ih =>
      intro F s i e hF h2 g
      obtain ⟨F, rfl⟩ : ∃ F2, F = F2 + 1 := ⟨F - 1, by omega⟩
      have ec : s 296 9 = c := (g.1 296 9 (by decide)).trans hc
      refine T_of (fX8_span_L3.eq_2 ..) ?_
      refine T_let (p + n) (v_wid (by omega)) ?_
      refine T_if0 (by omega) ?_
      refine T_if0 (by decide) ?_
      refine T_if1 (by decide +kernel) ?_
      refine T_let 297 (by decide +kernel) ?_
      refine T_let (i + 100) (v_wid (by omega)) ?_
      refine T_if1 (by decide +kernel) ?_
      refine T_let c ec ?_
      refine T_if1 (by decide +kernel) ?_
      refine T_paint g (fun s1 g1 => ?_)
      refine T_of (fX8_span_J56.eq_1 ..) ?_
      refine T_let (i + 1) (v_wid (by omega)) ?_
      exact ih F s1 (i + 1) (by omega) (by omega) (by omega) (g1.cg (fun x => ⟨fun r => r.elim (fun r => r.elim Or.inl (fun r => Or.inr ⟨r.1, by omega⟩)) (fun r => Or.inr ⟨by omega, by omega⟩), fun r => r.elim (fun r => Or.inl (Or.inl r)) (fun r => by
        by_cases z : x = i
        · exact Or.inr z
        · exact Or.inl (Or.inr ⟨r.1, by omega⟩))⟩))
  refine T_of (fX8_span.eq_1 ..) ?_
  exact go n.toNat fu s p (by omega) (by omega) (Int.le_refl _) (h.cg (fun x => ⟨Or.inl, fun r => r.elim id (fun q => by omega)⟩))
/-- x is painted with c -/
def y_pdd (s : z_M) (c x : Int) : Prop := y_ra x ∧ s 298 (x + 100) = c
theorem e_spanF {fu : Nat} (hfu : 8589934592 ≤ fu) {s : z_M} {c p n : Int} (ec : s 296 9 = c) (c0 : 0 < c) (hp : -1000000000 ≤ p ∧ p ≤ 1000000000) (hn : 0 ≤ n ∧ n ≤ 6) : z_T (fX8_span fu s 296 p n 0) (fun v s' => s' = s ∧ ∃ x, v = vI x ∧ y_Mn (fun y => (p ≤ y ∧ y < p + n) ∧ y_pdd s c y) x) := by
  have go : ∀ (m F : Nat) (i : Int), (m : Int) = p + n - i → m < F → p ≤ i → (∀ y : Int, p ≤ y → y < i → ¬ y_pdd s c y) → z_T (fX8_span_L3 fu 296 p n 0 F s i (fun s12 => some (vI 2147483647, s12))) (fun v s' => s' = s ∧ ∃ x, v = vI x ∧ y_Mn (fun y => (p ≤ y ∧ y < p + n) ∧ y_pdd s c y) x) := by
    intro m
    induction m with
    | zero =>
      intro F i e hF h2 g
      obtain ⟨F, rfl⟩ : ∃ F2, F = F2 + 1 := ⟨F - 1, by omega⟩
      refine T_of (fX8_span_L3.eq_2 ..) ?_
      refine T_let (p + n) (v_wid (by omega)) ?_
      refine T_if1 (by omega) ?_
      exact T_ret ⟨rfl, _, rfl, Or.inl ⟨rfl, fun y q => g y q.1.1 (by omega) q.2⟩⟩
    | succ m ih =>
      intro F i e hF h2 g
      obtain ⟨F, rfl⟩ : ∃ F2, F = F2 + 1 := ⟨F - 1, by omega⟩
      refine T_of (fX8_span_L3.eq_2 ..) ?_
      refine T_let (p + n) (v_wid (by omega)) ?_
      refine T_if0 (by omega) ?_
      refine T_if1 (by decide) ?_
      refine T_if1 (by decide +kernel) ?_
      refine T_let 297 (by decide +kernel) ?_
      refine T_let (i + 100) (v_wid (by omega)) ?_
      refine T_if1 (by decide +kernel) ?_
      refine T_getA w_r297 (fun px hx1 hx2 => ?_)
      refine T_if1 (by decide +kernel) ?_
      refine T_let c ec ?_
      refine T_ite (fun hX => ?_) (fun hX => ?_)
      · refine T_of (fX8_span_J56.eq_1 ..) ?_
        refine T_let (i + 1) (v_wid (by omega)) ?_
        refine ih F (i + 1) (by omega) (by omega) (by omega) (fun y p1 q1 => ?_)
        by_cases z : y = i
        · intro q
          have q1 := q.1
          have q2 := q.2
          rw [z] at q1 q2
          exact hX ((hx1 (by unfold y_ra at q1; omega)).trans q2)
        · exact g y p1 (by omega)
      · have eX : px = c := Decidable.not_not.mp hX
        have ri : 0 ≤ i + 100 ∧ i + 100 < 12000 := by
          by_cases z : 0 ≤ i + 100 ∧ i + 100 < 12000
          · exact z
          · have := hx2 z
            omega
        refine T_ret ⟨rfl, i, rfl, Or.inr ⟨⟨⟨h2, by omega⟩, by unfold y_ra; omega, (hx1 ri).symm.trans eX⟩, fun y q => ?_⟩⟩
        by_cases z : i ≤ y
        · exact z
        · exact absurd q.2 (g y q.1.1 (by omega))
  refine T_of (fX8_span.eq_1 ..) ?_
  exact go n.toNat fu p (by omega) (by omega) (Int.le_refl _) (fun y p1 q1 => by omega)
/-- what a visit keeps: pt painting or not, R of state, least, and what was visited -/
def y_VR (fu : Nat) (pt : Int) (sB : z_M) (R : z_M → Int → (Int → Prop) → Prop) : Prop := (∀ (s : z_M) (m : Int) (S : Int → Prop), R s m S → ∀ a b : Int, a ≠ 298 → s a b = sB a b) ∧ (∀ (s : z_M) (m : Int) (S S' : Int → Prop), R s m S → (∀ x : Int, S x ↔ S' x) → R s m S') ∧ ∀ (s : z_M) (m : Int) (S : Int → Prop) (p n : Int), R s m S → (-1000000000 ≤ p ∧ p ≤ 1000000000) → (0 ≤ n ∧ n ≤ 6) → z_T (fX8_span fu s 296 p n pt) (fun v s' => ∃ x, v = vI x ∧ R s' (z_min m x) (fun y => S y ∨ (p ≤ y ∧ y < p + n)))
theorem y_VRp {fu : Nat} (hfu : 8589934592 ≤ fu) {sB : z_M} {c : Int} (hc : sB 296 9 = c) : y_VR fu 1 sB (fun s _ S => y_PA sB s c S) :=
  ⟨fun s m S h => h.1, fun s m S S' h e => h.cg e, fun s m S p n h hp hn => T_mono (e_spanP hfu h hc hp hn) (fun v s' q => ⟨_, q.1, q.2⟩)⟩
theorem y_VRf {fu : Nat} (hfu : 8589934592 ≤ fu) {sB s1 : z_M} {c : Int} (ec : s1 296 9 = c) (c0 : 0 < c) (fr : ∀ a b : Int, a ≠ 298 → s1 a b = sB a b) : y_VR fu 0 sB (fun s m S => s = s1 ∧ y_Mn (fun y => S y ∧ y_pdd s1 c y) m) := by
  refine ⟨fun s m S h => by rw [h.1]; exact fr, fun s m S S' h e => ⟨h.1, h.2.cg (fun v => ⟨fun r => ⟨(e v).mpr r.1, r.2⟩, fun r => ⟨(e v).mp r.1, r.2⟩⟩)⟩, fun s m S p n h hp hn => ?_⟩
  obtain ⟨rfl, h⟩ := h
  refine T_mono (e_spanF hfu ec c0 hp hn) (fun v s' q => ?_)
  obtain ⟨e, x, rfl, g⟩ := q
  have ub : ∀ v : Int, y_pdd s c v → v < 2147483647 := fun v q => by
    have := q.1
    unfold y_ra at this
    omega
  exact ⟨x, rfl, e, (h.or g (fun v q => ub v q.2) (fun v q => ub v q.2)).cg (fun v => or_and_right)⟩
/-! what is on a side of a line of the class -/
def y_CJ (s : z_M) (d k i x : Int) : Prop := ∃ j : Int, (0 ≤ j ∧ j < i) ∧ y_fp s k d j ≤ x ∧ x < y_fp s k d j + 6
def y_CK (s : z_M) (d A b x : Int) : Prop := ∃ k j : Int, (A ≤ k ∧ k < b) ∧ (0 ≤ j ∧ j < y_ltr s k d) ∧ y_fp s k d j ≤ x ∧ x < y_fp s k d j + 6
def y_CSc (s : z_M) (d A i x : Int) : Prop := ∃ j : Int, (A ≤ j ∧ j < i) ∧ y_mk s d j = 1 ∧ s 268 j + 4 ≤ x ∧ x < s 268 j + 4 + 4
def y_CCc (s : z_M) (d l x : Int) : Prop := y_CK s d (s 278 l) (s 278 (l + 1)) x ∨ y_CSc s d (y_fs s l) (y_fs s (l + 1)) x
theorem y_CJ.s {s : z_M} {d k i x : Int} (h : 0 ≤ i) : y_CJ s d k (i + 1) x ↔ y_CJ s d k i x ∨ (y_fp s k d i ≤ x ∧ x < y_fp s k d i + 6) := by
  constructor
  · rintro ⟨j, p, r⟩
    by_cases z : j = i
    · rw [z] at r
      exact Or.inr r
    · exact Or.inl ⟨j, by omega, r⟩
  · intro r
    rcases r with ⟨j, p, r⟩ | r
    · exact ⟨j, by omega, r⟩
    · exact ⟨i, by omega, r⟩
theorem y_CK.s {s : z_M} {d A b x : Int} (h : A ≤ b) : y_CK s d A (b + 1) x ↔ y_CK s d A b x ∨ y_CJ s d b (y_ltr s b d) x := by
  constructor
  · rintro ⟨k, j, p, q, r⟩
    by_cases z : k = b
    · subst z
      exact Or.inr ⟨j, q, r⟩
    · exact Or.inl ⟨k, j, by omega, q, r⟩
  · intro r
    rcases r with ⟨k, j, p, q, r⟩ | ⟨j, q, r⟩
    · exact ⟨k, j, by omega, q, r⟩
    · exact ⟨b, j, by omega, q, r⟩
theorem y_CSc.s {s : z_M} {d A i x : Int} (h : A ≤ i) : y_CSc s d A (i + 1) x ↔ y_CSc s d A i x ∨ (y_mk s d i = 1 ∧ s 268 i + 4 ≤ x ∧ x < s 268 i + 4 + 4) := by
  constructor
  · rintro ⟨j, p, r⟩
    by_cases z : j = i
    · rw [z] at r
      exact Or.inr r
    · exact Or.inl ⟨j, by omega, r⟩
  · intro r
    rcases r with ⟨j, p, r⟩ | r
    · exact ⟨j, by omega, r⟩
    · exact ⟨i, by omega, r⟩
/-- what no paint changes -/
abbrev y_cz (a b : Int) : Prop := a = 10 ∨ a = 193 ∨ a = 195 ∨ a = 205 ∨ a = 215 ∨ a = 248 ∨ a = 262 ∨ a = 268 ∨ a = 278 ∨ a = 281 ∨ a = 285 ∨ a = 293 ∨ a = 295 ∨ (a = 191 ∧ b = 16) ∨ (a = 6 ∧ b = 6) ∨ (a = 240 ∧ b = 6) ∨ (a = 3 ∧ b = 8)
theorem y_czf {sB s : z_M} (f : ∀ a b : Int, a < 296 → s a b = sB a b) : ∀ a b : Int, y_cz a b → s a b = sB a b := fun a b q => f a b (by unfold y_cz at q; omega)
theorem y_fr_c {sB s : z_M} (f : ∀ a b : Int, y_cz a b → s a b = sB a b) : (∀ k d : Int, y_ltr s k d = y_ltr sB k d) ∧ (∀ k d i : Int, y_fp s k d i = y_fp sB k d i) ∧ (∀ k d : Int, y_bq s k d ↔ y_bq sB k d) ∧ (∀ l : Int, y_fs s l = y_fs sB l) ∧ ∀ d j : Int, y_mk s d j = y_mk sB d j := by
  have e1 : ∀ k d : Int, y_ltr s k d = y_ltr sB k d := fun k d => by
    unfold y_ltr
    rw [f 295 k (by unfold y_cz; omega), f 293 k (by unfold y_cz; omega)]
  have e2 : ∀ k d i : Int, y_fp s k d i = y_fp sB k d i := fun k d i => by
    unfold y_fp
    rw [e1, f 285 k (by unfold y_cz; omega), f 281 k (by unfold y_cz; omega), f 262 _ (by unfold y_cz; omega)]
  refine ⟨e1, e2, fun k d => ?_, fun l => ?_, fun d j => ?_⟩
  · unfold y_bq
    rw [e1, f 281 k (by unfold y_cz; omega)]
    constructor
    · exact fun h => ⟨h.1, h.2.1, h.2.2.1, fun i p q => by rw [← e2]; exact h.2.2.2 i p q⟩
    · exact fun h => ⟨h.1, h.2.1, h.2.2.1, fun i p q => by rw [e2]; exact h.2.2.2 i p q⟩
  · unfold y_fs
    rw [f 191 16 (by unfold y_cz; omega), f 248 l (by unfold y_cz; omega), f 6 6 (by unfold y_cz; omega), f 195 _ (by unfold y_cz; omega)]
  · unfold y_mk
    rw [f 215 j (by unfold y_cz; omega), f 193 _ (by unfold y_cz; omega), f 205 _ (by unfold y_cz; omega), f 10 j (by unfold y_cz; omega)]
theorem e_viI {fu : Nat} (hfu : 8589934592 ≤ fu) {pt : Int} {sB : z_M} {R : z_M → Int → (Int → Prop) → Prop} (vr : y_VR fu pt sB R) {l d b : Int} {S : Int → Prop} (bq : y_bq sB b d) {kont : z_M → Int → z_O} {P : z_V → z_M → Prop} (kk : ∀ (s' : z_M) (x : Int), R s' x (fun y => S y ∨ y_CJ sB d b (y_ltr sB b d) y) → z_T (kont s' x) P) : ∀ (m F : Nat) (s : z_M) (x i : Int), (m : Int) = y_ltr sB b d - i → m < F → 0 ≤ i → R s x (fun y => S y ∨ y_CJ sB d b i y) → z_T (fX8_visit_L38 fu 296 l d pt b F s x i kont) P := by
  have n0 := bq.2.2.1
  intro m
  induction m with
  | zero =>
    intro F s x i e hF h2 g
    obtain ⟨F, rfl⟩ : ∃ F2, F = F2 + 1 := ⟨F - 1, by omega⟩
    have fc := y_fr_c (y_czf (fun a b q => vr.1 _ _ _ g a b (by omega)))
    have bq' := (fc.2.2.1 b d).mpr bq
    have ei : i = y_ltr sB b d := by omega
    refine T_of (fX8_visit_L38.eq_2 ..) ?_
    refine T_if1 (by decide +kernel) ?_
    refine T_let 258 (by decide +kernel) ?_
    refine T_if1 (by decide +kernel) ?_
    refine T_let 279 (by decide +kernel) ?_
    refine T_if1 (by decide +kernel) ?_
    refine T_bI (T_of (e_letters bq'.1) (T_rI ?_))
    rw [fc.1 b d]
    refine T_if1 (by omega) ?_
    rw [ei] at g
    exact kk s x g
  | succ m ih =>
    intro F s x i e hF h2 g
    obtain ⟨F, rfl⟩ : ∃ F2, F = F2 + 1 := ⟨F - 1, by omega⟩
    have fc := y_fr_c (y_czf (fun a b q => vr.1 _ _ _ g a b (by omega)))
    have bq' := (fc.2.2.1 b d).mpr bq
    have q0 := bq.2.2.2 i h2 (by omega)
    refine T_of (fX8_visit_L38.eq_2 ..) ?_
    refine T_if1 (by decide +kernel) ?_
    refine T_let 258 (by decide +kernel) ?_
    refine T_if1 (by decide +kernel) ?_
    refine T_let 279 (by decide +kernel) ?_
    refine T_if1 (by decide +kernel) ?_
    refine T_bI (T_of (e_letters bq'.1) (T_rI ?_))
    rw [fc.1 b d]
    refine T_if0 (by omega) ?_
    refine T_if1 (by decide +kernel) ?_
    refine T_let 258 (by decide +kernel) ?_
    refine T_if1 (by decide +kernel) ?_
    refine T_bI (T_of (e_fp bq') (T_rI ?_))
    rw [fc.2.1 b d i]
    refine T_if1 (by decide +kernel) ?_
    refine T_useI (vr.2.2 _ _ _ _ 6 g (by omega) (by decide)) (fun v1 s1 hq => ?_)
    obtain ⟨x1, rfl, g1⟩ := hq
    refine T_vI ?_
    refine T_let (z_min x x1) rfl ?_
    refine T_let (i + 1) (v_wid (by omega)) ?_
    exact ih F s1 _ (i + 1) (by omega) (by omega) (by omega) (vr.2.1 _ _ _ _ g1 (fun y => y_or3 (y_CJ.s h2)))
theorem e_viK {fu : Nat} (hfu : 8589934592 ≤ fu) {pt : Int} {sB : z_M} {R : z_M → Int → (Int → Prop) → Prop} (vr : y_VR fu pt sB R) {l d A B : Int} {S : Int → Prop} (hl : 0 ≤ l ∧ l < 200) (hB : sB 278 (l + 1) = B) (hb : ∀ k : Int, A ≤ k → k < B → y_bq sB k d) {kont : z_M → Int → z_O} {P : z_V → z_M → Prop} (kk : ∀ (s' : z_M) (x : Int), R s' x (fun y => S y ∨ y_CK sB d A B y) → z_T (kont s' x) P) : ∀ (m F : Nat) (s : z_M) (x b : Int), (m : Int) = B - b → m < F → A ≤ b → R s x (fun y => S y ∨ y_CK sB d A b y) → z_T (fX8_visit_L17 fu 296 l d pt F s x b kont) P := by
  intro m
  induction m with
  | zero =>
    intro F s x b e hF h2 g
    obtain ⟨F, rfl⟩ : ∃ F2, F = F2 + 1 := ⟨F - 1, by omega⟩
    have e1 : s 278 (l + 1) = B := (vr.1 _ _ _ g 278 (l + 1) (by decide)).trans hB
    have eb : b = B := by omega
    refine T_of (fX8_visit_L17.eq_2 ..) ?_
    refine T_if1 (by decide +kernel) ?_
    refine T_let 258 (by decide +kernel) ?_
    refine T_if1 (by decide +kernel) ?_
    refine T_let 277 (by decide +kernel) ?_
    refine T_let (l + 1) (v_wid (by omega)) ?_
    refine T_if1 (by decide +kernel) ?_
    refine T_getV w_r277 (by omega) e1 ?_
    refine T_if1 (by omega) ?_
    rw [eb] at g
    exact kk s x g
  | succ m ih =>
    intro F s x b e hF h2 g
    obtain ⟨F, rfl⟩ : ∃ F2, F = F2 + 1 := ⟨F - 1, by omega⟩
    have e1 : s 278 (l + 1) = B := (vr.1 _ _ _ g 278 (l + 1) (by decide)).trans hB
    have bq := hb b h2 (by omega)
    have bq1 := bq.1
    have n0 := bq.2.2.1
    refine T_of (fX8_visit_L17.eq_2 ..) ?_
    refine T_if1 (by decide +kernel) ?_
    refine T_let 258 (by decide +kernel) ?_
    refine T_if1 (by decide +kernel) ?_
    refine T_let 277 (by decide +kernel) ?_
    refine T_let (l + 1) (v_wid (by omega)) ?_
    refine T_if1 (by decide +kernel) ?_
    refine T_getV w_r277 (by omega) e1 ?_
    refine T_if0 (by omega) ?_
    refine e_viI hfu vr (S := fun y => S y ∨ y_CK sB d A b y) bq (fun s1 x1 g1 => ?_) (y_ltr sB b d).toNat fu s x 0 (by omega) (by omega) (Int.le_refl _) (vr.2.1 _ _ _ _ g (fun y => ⟨Or.inl, fun r => r.elim id (fun q => by obtain ⟨j, p1, _⟩ := q; omega)⟩))
    refine T_let (b + 1) (v_wid (by omega)) ?_
    exact ih F s1 x1 (b + 1) (by omega) (by omega) (by omega) (vr.2.1 _ _ _ _ g1 (fun y => y_or3 (y_CK.s h2)))
theorem e_viS {fu : Nat} {pt : Int} {sB : z_M} {R : z_M → Int → (Int → Prop) → Prop} (vr : y_VR fu pt sB R) {l d A : Int} {S : Int → Prop} (hl : 0 ≤ l ∧ l < 200) (h1 : 0 ≤ sB 248 (l + 1)) (hn : sB 191 16 ≤ 200) (hA : 0 ≤ A) (hE : y_fs sB (l + 1) ≤ 200) (hs : ∀ j : Int, A ≤ j → j < y_fs sB (l + 1) → (0 ≤ sB 215 j ∧ sB 215 j < 200) ∧ 0 ≤ sB 268 j ∧ sB 268 j ≤ 100000000) {kont : z_M → Int → z_O} {P : z_V → z_M → Prop} (kk : ∀ (s' : z_M) (x : Int), R s' x (fun y => S y ∨ y_CSc sB d A (y_fs sB (l + 1)) y) → z_T (kont s' x) P) : ∀ (m F : Nat) (s : z_M) (x i : Int), (m : Int) = y_fs sB (l + 1) - i → m < F → A ≤ i → R s x (fun y => S y ∨ y_CSc sB d A i y) → z_T (fX8_visit_L108 fu 296 l d pt F s x i kont) P := by
  intro m
  induction m with
  | zero =>
    intro F s x i e hF h2 g
    obtain ⟨F, rfl⟩ : ∃ F2, F = F2 + 1 := ⟨F - 1, by omega⟩
    have f := vr.1 _ _ _ g
    have fc := y_fr_c (y_czf (fun a b q => f a b (by omega)))
    have ei : i = y_fs sB (l + 1) := by omega
    refine T_of (fX8_visit_L108.eq_2 ..) ?_
    refine T_if1 (by decide +kernel) ?_
    refine T_let 258 (by decide +kernel) ?_
    refine T_let (l + 1) (v_wid (by omega)) ?_
    refine T_if1 (by decide +kernel) ?_
    refine T_bI (T_of (e_firstSign (l := l + 1) (by omega) (by rw [f 248 (l + 1) (by decide)]; exact h1) (by rw [f 191 16 (by decide)]; exact hn)) (T_rI ?_))
    rw [fc.2.2.2.1 (l + 1)]
    refine T_if1 (by omega) ?_
    rw [ei] at g
    exact kk s x g
  | succ m ih =>
    intro F s x i e hF h2 g
    obtain ⟨F, rfl⟩ : ∃ F2, F = F2 + 1 := ⟨F - 1, by omega⟩
    have f := vr.1 _ _ _ g
    have fc := y_fr_c (y_czf (fun a b q => f a b (by omega)))
    obtain ⟨u0, p0⟩ := hs i h2 (by omega)
    have e2 : s 268 i = sB 268 i := f 268 i (by decide)
    refine T_of (fX8_visit_L108.eq_2 ..) ?_
    refine T_if1 (by decide +kernel) ?_
    refine T_let 258 (by decide +kernel) ?_
    refine T_let (l + 1) (v_wid (by omega)) ?_
    refine T_if1 (by decide +kernel) ?_
    refine T_bI (T_of (e_firstSign (l := l + 1) (by omega) (by rw [f 248 (l + 1) (by decide)]; exact h1) (by rw [f 191 16 (by decide)]; exact hn)) (T_rI ?_))
    rw [fc.2.2.2.1 (l + 1)]
    refine T_if0 (by omega) ?_
    refine T_if1 (by decide +kernel) ?_
    refine T_let 191 (by decide +kernel) ?_
    refine T_if1 v_ob191 ?_
    refine T_bI (T_of (e_markOf (by omega) (by rw [f 215 i (by decide)]; exact u0)) (T_rI ?_))
    rw [fc.2.2.2.2 d i]
    refine T_ite (fun hM => ?_) (fun hM => ?_)
    · refine T_of (fX8_visit_J168.eq_1 ..) ?_
      refine T_let (i + 1) (v_wid (by omega)) ?_
      exact ih F s x (i + 1) (by omega) (by omega) (by omega) (vr.2.1 _ _ _ _ g (fun y => or_congr_right (((y_CSc.s h2).trans ⟨fun r => r.elim id (fun q => absurd q.1 hM), Or.inl⟩).symm)))
    · refine T_if1 (by decide +kernel) ?_
      refine T_let 258 (by decide +kernel) ?_
      refine T_if1 (by decide +kernel) ?_
      refine T_let 267 (by decide +kernel) ?_
      refine T_if1 (by decide +kernel) ?_
      refine T_getV w_r267 (by omega) e2 ?_
      refine T_let ((sB 268 i) + 4) (v_wid (by omega)) ?_
      refine T_if1 (by decide +kernel) ?_
      refine T_useI (vr.2.2 _ _ _ _ 4 g (by omega) (by decide)) (fun v1 s1 hq => ?_)
      obtain ⟨x1, rfl, g1⟩ := hq
      refine T_vI ?_
      refine T_let (z_min x x1) rfl ?_
      refine T_of (fX8_visit_J168.eq_1 ..) ?_
      refine T_let (i + 1) (v_wid (by omega)) ?_
      exact ih F s1 _ (i + 1) (by omega) (by omega) (by omega) (vr.2.1 _ _ _ _ g1 (fun y => y_or3 ((y_CSc.s h2).trans (or_congr_right ⟨fun r => r.2, fun r => ⟨by omega, r⟩⟩))))
theorem e_visit {fu : Nat} (hfu : 8589934592 ≤ fu) {pt : Int} {sB s : z_M} {R : z_M → Int → (Int → Prop) → Prop} (vr : y_VR fu pt sB R) {l d : Int} {S : Int → Prop} (hl : 0 ≤ l ∧ l < 200) (h0 : 0 ≤ sB 248 l) (h1 : 0 ≤ sB 248 (l + 1)) (hn : sB 191 16 ≤ 200) (hA : 0 ≤ y_fs sB l ∧ y_fs sB l ≤ y_fs sB (l + 1)) (hE : y_fs sB (l + 1) ≤ 200) (hs : ∀ j : Int, y_fs sB l ≤ j → j < y_fs sB (l + 1) → (0 ≤ sB 215 j ∧ sB 215 j < 200) ∧ 0 ≤ sB 268 j ∧ sB 268 j ≤ 100000000) (hAB : 0 ≤ sB 278 l ∧ sB 278 l ≤ sB 278 (l + 1) ∧ sB 278 (l + 1) ≤ 200) (hb : ∀ k : Int, sB 278 l ≤ k → k < sB 278 (l + 1) → y_bq sB k d) (g : R s 2147483647 S) : z_T (fX8_visit fu s 296 l d pt) (fun v s' => ∃ x, v = vI x ∧ R s' x (fun y => S y ∨ y_CCc sB d l y)) := by
  have e1 : s 278 l = sB 278 l := vr.1 _ _ _ g 278 l (by decide)
  refine T_of (fX8_visit.eq_1 ..) ?_
  refine T_if1 (by decide +kernel) ?_
  refine T_let 258 (by decide +kernel) ?_
  refine T_if1 (by decide +kernel) ?_
  refine T_let 277 (by decide +kernel) ?_
  refine T_if1 (by decide +kernel) ?_
  refine T_getV w_r277 (by omega) e1 ?_
  refine e_viK hfu vr (S := S) (A := sB 278 l) (B := sB 278 (l + 1)) hl rfl hb (fun s1 x1 g1 => ?_) (sB 278 (l + 1) - sB 278 l).toNat fu s 2147483647 (sB 278 l) (by omega) (by omega) (Int.le_refl _) (vr.2.1 _ _ _ _ g (fun y => ⟨Or.inl, fun r => r.elim id (fun q => by obtain ⟨k, j, p1, _⟩ := q; omega)⟩))
  have f := vr.1 _ _ _ g1
  have fc := y_fr_c (y_czf (fun a b q => f a b (by omega)))
  refine T_if1 (by decide +kernel) ?_
  refine T_let 258 (by decide +kernel) ?_
  refine T_if1 (by decide +kernel) ?_
  refine T_bI (T_of (e_firstSign (l := l) (by omega) (by rw [f 248 l (by decide)]; exact h0) (by rw [f 191 16 (by decide)]; exact hn)) (T_rI ?_))
  rw [fc.2.2.2.1 l]
  exact e_viS vr (S := fun y => S y ∨ y_CK sB d (sB 278 l) (sB 278 (l + 1)) y) (A := y_fs sB l) hl h1 hn hA.1 hE hs (fun s2 x2 g2 => T_ret ⟨x2, rfl, vr.2.1 _ _ _ _ g2 (fun y => or_assoc)⟩) (y_fs sB (l + 1) - y_fs sB l).toNat fu s1 x1 (y_fs sB l) (by omega) (by omega) (Int.le_refl _) (vr.2.1 _ _ _ _ g1 (fun y => ⟨Or.inl, fun r => r.elim id (fun q => by obtain ⟨j, p1, _⟩ := q; omega)⟩))
