/-! THE CLAIM: the start's world -/
theorem z_eqt {args : Array Value} {s : State} {t : Term} {z : Int32} (h : (Cond.eq t (.int z)).before args s = true) : t.eval args s none [] s = some (.int z) := by
  cases hv : t.eval args s none [] s with
  | none => simp [Cond.before, Cond.holds, Cond.value, hv] at h
  | some w =>
    have hz : (Term.int z).eval args s none [] s = some (.int z) := rfl
    simp only [Cond.before, Cond.holds, Cond.value, hv, hz] at h
    cases w <;> simp_all
theorem z_overA {args : Array Value} {s : State} {t : FieldType} (h : (Cond.arrayOver (.array t)).before args s = true) :
    ∃ comp c k, s.vm.findClass (FieldType.array t).toString = some comp ∧ s.vm.classes[c]? = some k ∧ k.kind = .array comp (.array t) ∧ s.vm.findClass ("[" ++ (FieldType.array t).toString) = some c := by
  simp only [Cond.before, Cond.holds, Cond.value, beq_iff_eq] at h
  cases hc : s.vm.findClass (FieldType.array t).toString with
  | none => simp [hc] at h
  | some comp =>
    simp only [hc, Option.bind_some, Option.bind_eq_some_iff, Option.map_eq_some_iff] at h
    obtain ⟨c, hi, k, hk, hb⟩ := h
    obtain ⟨hlt, hp, -⟩ := Array.findIdx?_eq_some_iff_getElem.mp hi
    have hkk : s.vm.classes[c] = k := (Array.getElem?_eq_some_iff.mp hk).2
    rw [hkk] at hp
    cases hkind : k.kind with
    | array component ty =>
      rw [hkind] at hb hp
      simp at hb hp
      exact ⟨comp, c, k, rfl, hk, by rw [hkind, hp, hb.1], hb.2⟩
    | _ => rw [hkind] at hb; simp at hb
theorem z_lw (i : Nat) {w : Cond} (h : lw_tbl[i]? = some w) : w ∈ lw_tbl := List.mem_of_getElem? h
theorem z_stt0 {args : Array Value} {s : State} {A : Nat → Prop} (hgv : (Jvm.Cond.and given_1 narrow_1).before args s = true) (hts : ∀ w ∈ lw_tbl, w.before args s = true) (hA : ∀ a : Nat, a < s.heap.size → ¬ A a) : ∃ t : Nat, va_T .int t 9 (fun j => .int (Int32.ofInt (z_tb 0 j))) A s s.heap ∧ va_Z RX11 (z_tn 0) "[I" (.ref t) A s s.heap := by
  have hs := flat_of_before _ hgv
  have hel : ∀ j : Nat, j < 9 → (Term.elem (.static "UprightTurned" "LOWEST" "[I") (.int (Int32.ofNat j))).eval args s none [] s = some (.int (Int32.ofInt (z_tb 0 j))) := by
    intro j hj
    rcases (show j = 0 ∨ j = 1 ∨ j = 2 ∨ j = 3 ∨ j = 4 ∨ j = 5 ∨ j = 6 ∨ j = 7 ∨ j = 8 by omega) with rfl | rfl | rfl | rfl | rfl | rfl | rfl | rfl | rfl
    · exact z_eqt (hs (.eq (.elem (.static "UprightTurned" "LOWEST" "[I") (.int 0)) (.int 12)) (by decide +kernel))
    · exact z_eqt (hs (.eq (.elem (.static "UprightTurned" "LOWEST" "[I") (.int 1)) (.int 0)) (by decide +kernel))
    · exact z_eqt (hs (.eq (.elem (.static "UprightTurned" "LOWEST" "[I") (.int 2)) (.int 0)) (by decide +kernel))
    · exact z_eqt (hs (.eq (.elem (.static "UprightTurned" "LOWEST" "[I") (.int 3)) (.int 0)) (by decide +kernel))
    · exact z_eqt (hs (.eq (.elem (.static "UprightTurned" "LOWEST" "[I") (.int 4)) (.int 0)) (by decide +kernel))
    · exact z_eqt (hs (.eq (.elem (.static "UprightTurned" "LOWEST" "[I") (.int 5)) (.int 0)) (by decide +kernel))
    · exact z_eqt (hs (.eq (.elem (.static "UprightTurned" "LOWEST" "[I") (.int 6)) (.int 0)) (by decide +kernel))
    · exact z_eqt (hs (.eq (.elem (.static "UprightTurned" "LOWEST" "[I") (.int 7)) (.int 0)) (by decide +kernel))
    · exact z_eqt (hs (.eq (.elem (.static "UprightTurned" "LOWEST" "[I") (.int 8)) (.int 0)) (by decide +kernel))
  obtain ⟨t, h1, h2⟩ := va_Tof (tm := .static "UprightTurned" "LOWEST" "[I") (ty := .int) (N := 9) (f := fun j => .int (Int32.ofInt (z_tb 0 j))) (A := A) (by decide) (hs (.arrayOf (.static "UprightTurned" "LOWEST" "[I") .int) (by decide +kernel)) (z_eqt (z := 9) (hs (.eq (.length (.static "UprightTurned" "LOWEST" "[I")) (.int 9)) (by decide +kernel))) hel hA
  exact ⟨t, h2, va_Zref (hts (.laysStatic "UprightTurned" "LOWEST" "[I") (z_lw 1073 (by decide +kernel))) (hts (.initialized "UprightTurned") (z_lw 103 (by decide +kernel))) h1 hA⟩
theorem z_stt1 {args : Array Value} {s : State} {A : Nat → Prop} (hgv : (Jvm.Cond.and given_1 narrow_1).before args s = true) (hts : ∀ w ∈ lw_tbl, w.before args s = true) (hA : ∀ a : Nat, a < s.heap.size → ¬ A a) : ∃ t : Nat, va_T .int t 9 (fun j => .int (Int32.ofInt (z_tb 1 j))) A s s.heap ∧ va_Z RX11 (z_tn 1) "[I" (.ref t) A s s.heap := by
  have hs := flat_of_before _ hgv
  have hel : ∀ j : Nat, j < 9 → (Term.elem (.static "UprightTurned" "HIGHEST" "[I") (.int (Int32.ofNat j))).eval args s none [] s = some (.int (Int32.ofInt (z_tb 1 j))) := by
    intro j hj
    rcases (show j = 0 ∨ j = 1 ∨ j = 2 ∨ j = 3 ∨ j = 4 ∨ j = 5 ∨ j = 6 ∨ j = 7 ∨ j = 8 by omega) with rfl | rfl | rfl | rfl | rfl | rfl | rfl | rfl | rfl
    · exact z_eqt (hs (.eq (.elem (.static "UprightTurned" "HIGHEST" "[I") (.int 0)) (.int 999)) (by decide +kernel))
    · exact z_eqt (hs (.eq (.elem (.static "UprightTurned" "HIGHEST" "[I") (.int 1)) (.int 4)) (by decide +kernel))
    · exact z_eqt (hs (.eq (.elem (.static "UprightTurned" "HIGHEST" "[I") (.int 2)) (.int 6)) (by decide +kernel))
    · exact z_eqt (hs (.eq (.elem (.static "UprightTurned" "HIGHEST" "[I") (.int 3)) (.int 1)) (by decide +kernel))
    · exact z_eqt (hs (.eq (.elem (.static "UprightTurned" "HIGHEST" "[I") (.int 4)) (.int 1)) (by decide +kernel))
    · exact z_eqt (hs (.eq (.elem (.static "UprightTurned" "HIGHEST" "[I") (.int 5)) (.int 1)) (by decide +kernel))
    · exact z_eqt (hs (.eq (.elem (.static "UprightTurned" "HIGHEST" "[I") (.int 6)) (.int 1)) (by decide +kernel))
    · exact z_eqt (hs (.eq (.elem (.static "UprightTurned" "HIGHEST" "[I") (.int 7)) (.int 99)) (by decide +kernel))
    · exact z_eqt (hs (.eq (.elem (.static "UprightTurned" "HIGHEST" "[I") (.int 8)) (.int 12)) (by decide +kernel))
  obtain ⟨t, h1, h2⟩ := va_Tof (tm := .static "UprightTurned" "HIGHEST" "[I") (ty := .int) (N := 9) (f := fun j => .int (Int32.ofInt (z_tb 1 j))) (A := A) (by decide) (hs (.arrayOf (.static "UprightTurned" "HIGHEST" "[I") .int) (by decide +kernel)) (z_eqt (z := 9) (hs (.eq (.length (.static "UprightTurned" "HIGHEST" "[I")) (.int 9)) (by decide +kernel))) hel hA
  exact ⟨t, h2, va_Zref (hts (.laysStatic "UprightTurned" "HIGHEST" "[I") (z_lw 1078 (by decide +kernel))) (hts (.initialized "UprightTurned") (z_lw 103 (by decide +kernel))) h1 hA⟩
theorem z_stt2 {args : Array Value} {s : State} {A : Nat → Prop} (hgv : (Jvm.Cond.and given_1 narrow_1).before args s = true) (hts : ∀ w ∈ lw_tbl, w.before args s = true) (hA : ∀ a : Nat, a < s.heap.size → ¬ A a) : ∃ t : Nat, va_T .int t 9 (fun j => .int (Int32.ofInt (z_tb 2 j))) A s s.heap ∧ va_Z RX11 (z_tn 2) "[I" (.ref t) A s s.heap := by
  have hs := flat_of_before _ hgv
  have hel : ∀ j : Nat, j < 9 → (Term.elem (.static "UprightTurned" "AT_FIRST" "[I") (.int (Int32.ofNat j))).eval args s none [] s = some (.int (Int32.ofInt (z_tb 2 j))) := by
    intro j hj
    rcases (show j = 0 ∨ j = 1 ∨ j = 2 ∨ j = 3 ∨ j = 4 ∨ j = 5 ∨ j = 6 ∨ j = 7 ∨ j = 8 by omega) with rfl | rfl | rfl | rfl | rfl | rfl | rfl | rfl | rfl
    · exact z_eqt (hs (.eq (.elem (.static "UprightTurned" "AT_FIRST" "[I") (.int 0)) (.int 120)) (by decide +kernel))
    · exact z_eqt (hs (.eq (.elem (.static "UprightTurned" "AT_FIRST" "[I") (.int 1)) (.int 2)) (by decide +kernel))
    · exact z_eqt (hs (.eq (.elem (.static "UprightTurned" "AT_FIRST" "[I") (.int 2)) (.int 3)) (by decide +kernel))
    · exact z_eqt (hs (.eq (.elem (.static "UprightTurned" "AT_FIRST" "[I") (.int 3)) (.int 0)) (by decide +kernel))
    · exact z_eqt (hs (.eq (.elem (.static "UprightTurned" "AT_FIRST" "[I") (.int 4)) (.int 0)) (by decide +kernel))
    · exact z_eqt (hs (.eq (.elem (.static "UprightTurned" "AT_FIRST" "[I") (.int 5)) (.int 1)) (by decide +kernel))
    · exact z_eqt (hs (.eq (.elem (.static "UprightTurned" "AT_FIRST" "[I") (.int 6)) (.int 0)) (by decide +kernel))
    · exact z_eqt (hs (.eq (.elem (.static "UprightTurned" "AT_FIRST" "[I") (.int 7)) (.int 0)) (by decide +kernel))
    · exact z_eqt (hs (.eq (.elem (.static "UprightTurned" "AT_FIRST" "[I") (.int 8)) (.int 4)) (by decide +kernel))
  obtain ⟨t, h1, h2⟩ := va_Tof (tm := .static "UprightTurned" "AT_FIRST" "[I") (ty := .int) (N := 9) (f := fun j => .int (Int32.ofInt (z_tb 2 j))) (A := A) (by decide) (hs (.arrayOf (.static "UprightTurned" "AT_FIRST" "[I") .int) (by decide +kernel)) (z_eqt (z := 9) (hs (.eq (.length (.static "UprightTurned" "AT_FIRST" "[I")) (.int 9)) (by decide +kernel))) hel hA
  exact ⟨t, h2, va_Zref (hts (.laysStatic "UprightTurned" "AT_FIRST" "[I") (z_lw 133 (by decide +kernel))) (hts (.initialized "UprightTurned") (z_lw 103 (by decide +kernel))) h1 hA⟩
theorem z_Kn {args : Array Value} {s : State} (hts : ∀ w ∈ lw_tbl, w.before args s = true) : ∃ (dC : Nat → ClassId) (dI : Nat → Nat → Nat), ∀ (k : Nat) (q : vw_C), vwCl[k]? = some q → u_Kn s q.1 q.2.1 q.2.2 (dC k) (dI k) := by
  have ht : ∀ w ∈ z_tbl, w.before args s = true := fun w hw => hts w (List.mem_filter.mp hw).1
  have h : ∀ k : Nat, ∃ d : ClassId × (Nat → Nat), ∀ q : vw_C, vwCl[k]? = some q → u_Kn s q.1 q.2.1 q.2.2 d.1 d.2 := by
    intro k
    match k with
    | 0 => obtain ⟨c, i, h⟩ := u_known ht z_CLX0.2.2.2.1 (ht _ z_inX0); exact ⟨(c, i), fun q hq => by rw [z_CLX0.1] at hq; cases hq; exact h⟩
    | 1 => obtain ⟨c, i, h⟩ := u_known ht z_CLX1.2.2.2.1 (ht _ z_inX1); exact ⟨(c, i), fun q hq => by rw [z_CLX1.1] at hq; cases hq; exact h⟩
    | 2 => obtain ⟨c, i, h⟩ := u_known ht z_CLX2.2.2.2.1 (ht _ z_inX2); exact ⟨(c, i), fun q hq => by rw [z_CLX2.1] at hq; cases hq; exact h⟩
    | 3 => obtain ⟨c, i, h⟩ := u_known ht z_CLX3.2.2.2.1 (ht _ z_inX3); exact ⟨(c, i), fun q hq => by rw [z_CLX3.1] at hq; cases hq; exact h⟩
    | 4 => obtain ⟨c, i, h⟩ := u_known ht z_CLX4.2.2.2.1 (ht _ z_inX4); exact ⟨(c, i), fun q hq => by rw [z_CLX4.1] at hq; cases hq; exact h⟩
    | 5 => obtain ⟨c, i, h⟩ := u_known ht z_CLX5.2.2.2.1 (ht _ z_inX5); exact ⟨(c, i), fun q hq => by rw [z_CLX5.1] at hq; cases hq; exact h⟩
    | 6 => obtain ⟨c, i, h⟩ := u_known ht z_CLX6.2.2.2.1 (ht _ z_inX6); exact ⟨(c, i), fun q hq => by rw [z_CLX6.1] at hq; cases hq; exact h⟩
    | 7 => obtain ⟨c, i, h⟩ := u_known ht z_CLX7.2.2.2.1 (ht _ z_inX7); exact ⟨(c, i), fun q hq => by rw [z_CLX7.1] at hq; cases hq; exact h⟩
    | 8 => obtain ⟨c, i, h⟩ := u_known ht z_CLX8.2.2.2.1 (ht _ z_inX8); exact ⟨(c, i), fun q hq => by rw [z_CLX8.1] at hq; cases hq; exact h⟩
    | 9 => obtain ⟨c, i, h⟩ := u_known ht z_CLX9.2.2.2.1 (ht _ z_inX9); exact ⟨(c, i), fun q hq => by rw [z_CLX9.1] at hq; cases hq; exact h⟩
    | 10 => obtain ⟨c, i, h⟩ := u_known ht z_CLX10.2.2.2.1 (ht _ z_inX10); exact ⟨(c, i), fun q hq => by rw [z_CLX10.1] at hq; cases hq; exact h⟩
    | 11 => obtain ⟨c, i, h⟩ := u_known ht z_CLX11.2.2.2.1 (ht _ z_inX11); exact ⟨(c, i), fun q hq => by rw [z_CLX11.1] at hq; cases hq; exact h⟩
    | 12 => obtain ⟨c, i, h⟩ := u_known ht z_CLX12.2.2.2.1 (ht _ z_inX12); exact ⟨(c, i), fun q hq => by rw [z_CLX12.1] at hq; cases hq; exact h⟩
    | k + 13 => exact ⟨(0, fun _ => 0), fun q hq => by
        have hl : vwCl.length = 13 := rfl
        rw [List.getElem?_eq_none (by omega)] at hq; cases hq⟩
  obtain ⟨f, hf⟩ := Classical.axiomOfChoice h
  exact ⟨fun k => (f k).1, fun k => (f k).2, hf⟩
theorem z_arrs {args : Array Value} {s : State} (hts : ∀ w ∈ lw_tbl, w.before args s = true) : ∃ dA : Nat → ClassId,
    (∀ (k : Nat) (q : ClassId × FieldType), ([(dA 100, .int), (dA 101, .long), (dA 102, .boolean), (dA 103, .array .int), (dA 104, .object RX9), (dA 105, .array (.array .int))] : List (ClassId × FieldType))[k]? = some q → ArrOfT s q.1 q.2 ∧ va_RA s q.1 q.2) ∧
    (∃ (k : Class) (q : ClassId), s.vm.classes[dA 100]? = some k ∧ k.kind = .array q .int) ∧ (∃ k : Class, s.vm.classes[dA 103]? = some k ∧ k.kind = .array (dA 100) (.array .int)) ∧ (∃ k : Class, s.vm.classes[dA 105]? = some k ∧ k.kind = .array (dA 103) (.array (.array .int))) := by
  obtain ⟨a0, k0, q0, f0, g0, e0⟩ := Cond.arrayClass_spec (hts (.arrayClass .int) (z_lw 142 (by decide +kernel)))
  obtain ⟨a1, k1, q1, f1, g1, e1⟩ := Cond.arrayClass_spec (hts (.arrayClass .long) (z_lw 161 (by decide +kernel)))
  obtain ⟨a2, k2, q2, f2, g2, e2⟩ := Cond.arrayClass_spec (hts (.arrayClass .boolean) (z_lw 1621 (by decide +kernel)))
  obtain ⟨q3, a3, k3, d3, g3, e3, f3⟩ := z_overA (hts (.arrayOver (.array .int)) (z_lw 1416 (by decide +kernel)))
  obtain ⟨q4, a4, k4, d4, i4, g4, e4, f4⟩ := Cond.arrayOver_spec (hts (.arrayOver (.object RX9)) (z_lw 241 (by decide +kernel)))
  obtain ⟨q5, a5, k5, d5, g5, e5, f5⟩ := z_overA (hts (.arrayOver (.array (.array .int))) (z_lw 1418 (by decide +kernel)))
  have x3 : q3 = a0 := Option.some.inj (d3.symm.trans f0)
  have x5 : q5 = a3 := Option.some.inj (d5.symm.trans f3)
  subst x3
  subst x5
  refine ⟨fun c => if c = 100 then q3 else if c = 101 then a1 else if c = 102 then a2 else if c = 103 then q5 else if c = 104 then a4 else a5, ?_, ⟨k0, q0, g0, e0⟩, ⟨k3, g3, e3⟩, ⟨k5, g5, e5⟩⟩
  intro k q hq
  match k, hq with
  | 0, hq => cases hq; exact ⟨fun n z => ⟨fun k h => (by cases h), k0, g0, q0, e0⟩, f0⟩
  | 1, hq => cases hq; exact ⟨fun n z => ⟨fun k h => (by cases h), k1, g1, q1, e1⟩, f1⟩
  | 2, hq => cases hq; exact ⟨fun n z => ⟨fun k h => (by cases h), k2, g2, q2, e2⟩, f2⟩
  | 3, hq => cases hq; exact ⟨fun n z => ⟨fun k h => (by cases h), k3, g3, _, e3⟩, f3⟩
  | 4, hq => cases hq; exact ⟨fun n z => ⟨fun k h => (by cases h), k4, g4, q4, e4⟩, k4, q4, g4, e4, d4, f4⟩
  | 5, hq => cases hq; exact ⟨fun n z => ⟨fun k h => (by cases h), k5, g5, _, e5⟩, f5⟩
  | k + 6, hq => simp at hq
theorem z_WK {args : Array Value} {s : State} {b L : Nat} {xs : Nat → Int32} (hgv : (Jvm.Cond.and given_1 narrow_1).before args s = true) (hts : ∀ w ∈ lw_tbl, w.before args s = true) (hX : va_X b L xs s s.heap) (hbl : b < s.heap.size) (hL : L ≤ 3072) :
    ∃ (dC : Nat → ClassId) (dI : Nat → Nat → Nat) (dA : Nat → ClassId) (tA : Nat → Nat), z_W (s.heap.size - 1, dC, dI, dA, tA, b, L, xs) s s.heap := by
  have hA : ∀ a : Nat, a < s.heap.size → ¬ (s.heap.size - 1 < a) := fun a h => by omega
  have hs := flat_of_before _ hgv
  obtain ⟨dC, dI, hK⟩ := z_Kn hts
  obtain ⟨dA, h1, h2, h3, h4⟩ := z_arrs hts
  obtain ⟨t0, u0, v0⟩ := z_stt0 (A := fun q => s.heap.size - 1 < q) hgv hts hA
  obtain ⟨t1, u1, v1⟩ := z_stt1 (A := fun q => s.heap.size - 1 < q) hgv hts hA
  obtain ⟨t2, u2, v2⟩ := z_stt2 (A := fun q => s.heap.size - 1 < q) hgv hts hA
  refine ⟨dC, dI, dA, fun i => if i = 0 then t0 else if i = 1 then t1 else t2, ⟨hK, h1⟩, ?_, ?_, ?_, ⟨hX, hbl, hA b hbl, hL⟩, ?_⟩
  · intro i hi
    rcases (show i = 0 ∨ i = 1 ∨ i = 2 by omega) with rfl | rfl | rfl
    · exact ⟨u0, v0⟩
    · exact ⟨u1, v1⟩
    · exact ⟨u2, v2⟩
  · exact vx_Zqof (hts (.laysStatic Bundle.tN "UNASSIGNED_STACK" Bundle.steD) (z_lw 958 (by decide +kernel))) (hts (.initialized Bundle.tN) (z_lw 116 (by decide +kernel))) (hs (.isRef (.static Bundle.tN "UNASSIGNED_STACK" Bundle.steD)) (by decide +kernel)) hA
  · exact vx_Zqof (hts (.laysStatic Bundle.tN "SUPPRESSED_SENTINEL" Bundle.listD) (z_lw 960 (by decide +kernel))) (hts (.initialized Bundle.tN) (z_lw 116 (by decide +kernel))) (hs (.isRef (.static Bundle.tN "SUPPRESSED_SENTINEL" Bundle.listD)) (by decide +kernel)) hA
  · refine ⟨va_Nw.of rfl (hts (.castable "java/lang/IllegalArgumentException" "java/lang/IllegalArgumentException") (z_lw 933 (by decide +kernel))), va_Nw.of rfl (hts (.castable "java/util/NoSuchElementException" "java/util/NoSuchElementException") (z_lw 1093 (by decide +kernel))),
      va_Nc.of (hs (.not (.castable "java/util/NoSuchElementException" "java/lang/IllegalArgumentException")) (by decide +kernel)), va_Nc.of (hs (.not (.castable "java/lang/IllegalArgumentException" "java/util/NoSuchElementException")) (by decide +kernel)),
      va_Nw.of rfl (hts (.methodLinkNest RX11 z_n11 yX9_init RX11) (z_lw 145 (by decide +kernel))), va_Nw.of rfl (hts (.methodLinkNest RX2 z_n2 yX9_init RX11) (z_lw 242 (by decide +kernel))), va_AO.of (A := args) (hts (.arrayOver (.object RX9)) (z_lw 241 (by decide +kernel))), h2, h3, h4, ?_⟩
    intro y hy
    rcases (show y = ⟨"java/lang/RuntimeException", "<init>", "()V"⟩ ∨ y = ⟨"java/lang/Exception", "<init>", "()V"⟩ ∨ y = ⟨"java/lang/Throwable", "<init>", "()V"⟩ by simpa [z_dcl] using hy) with rfl | rfl | rfl
    · exact va_Nw.of rfl (hts (.declares ⟨"java/lang/RuntimeException", "<init>", "()V"⟩) (z_lw 934 (by decide +kernel)))
    · exact va_Nw.of rfl (hts (.declares ⟨"java/lang/Exception", "<init>", "()V"⟩) (z_lw 936 (by decide +kernel)))
    · exact va_Nw.of rfl (hts (.declares ⟨"java/lang/Throwable", "<init>", "()V"⟩) (z_lw 938 (by decide +kernel)))
theorem V_room {l : Launch} {K : z_K} {M : z_Me} {fr lo fr2 lo2 bc bs pc : Nat} {lv st : List z_V} {n : Nat} {τ σ : z_M} {Q : z_Q} (h1 : fr ≤ fr2) (h2 : lo ≤ lo2) (k : V l K M fr lo bc bs pc lv st n τ σ Q) : V l K M fr2 lo2 bc bs pc lv st n τ σ Q :=
  fun p e R s m args below meth cd H locs cells slots ls F a1 a2 => k p e R s m args below meth cd H locs cells slots ls F (Nat.le_trans h1 a1) (Nat.le_trans h2 a2)
theorem law_V {l : Launch} {K : z_K} (hst : l.stackTraces = false) {fu F : Nat} {s' : z_M} (hE : fL_law_L23 fu K.2.2.2.2.2.2.1 K.2.2.2.2.2.2.2 1 309 7658 F z_s0 0 z_kr = some (vI 1, s')) :
    V l K mL_law 15 590 (4 * F + 7658) (24 * F + 194553) 0 [vA K.2.2.2.2.2.1, vU, vU, vU, vU, vU, vU, vU] [] 0 z_gr (fun _ _ => 0) (z_QE (some (vI 1, s'))) := by
  refine law_start hst (V_room (fr := 13) (lo := 295) (by decide) (by decide) ?_)
  have h := gL_law_L23 (l := l) (K := K) hst fu 1 309 7658 z_kr (fun s => by
    refine G_iconst (pc := 1344) dL_law_1344 ?_
    exact G_zret (pc := 1345) dL_law_1345) F z_s0 0
  rw [hE] at h
  exact h (by intro q; cases q)
/-! THE CLAIM OUT OF ONE WALK OF THE LAW'S BODY. Your part is whole_start (and what it stands on); all else here is the same for every law, but numbers. -/
def R_law : String := "UprightTurnedLaw"
def lw_P (b : Addr) (xs : List Int32) (args : Array Value) (s : State) : Prop := args = #[.ref b] ∧ s.IntsAt b xs ∧ xs.length ≤ 3072 ∧ (Jvm.Cond.and given_1 narrow_1).before args s = true
def lw_Q (_ : Array Value) (s : State) (o : Outcome) (t : State) : Prop := o = .returned (some (.int 1)) ∧ Framed s o t [] 601024 7293034
def lw_Z (below : List Frame) (a : Array Value) (s : State) : State → Prop := fun t => ∃ o, t.status = .running ∧ Ended t below o ∧ lw_Q a s o t
/-- the law's own end, with 1 on the stack, nothing written that was there before, its room as the claim has it -/
theorem lw_ret {p : Program} {l : Launch} {e : Env} {s : State} {m : MethodId} {below : List Frame} {meth : Method} {c : Code} {b : Nat} (hx : p.tables.exec = Jvm.exec) (hb : c.code = code) (hr : meth.sig.returnType = ret) (hlocks : meth.locks = false) {pc : Nat} {H : Heap} {ls : Array Slot} (hdg : decode code pc = .ok (.ireturn, 1)) : W p l e room_1 s m #[Value.ref b] below meth c H [] 601024 7293034 (lw_Z below #[Value.ref b] s) (F0 m pc ls [.int 1]) := by
  intro T hT X
  obtain ⟨fs, hret, hrun, hended, hW, hframe⟩ := X.leave (v := some (.int 1)) (hlocks := hlocks) (fun h => by rw [hr] at h; cases h)
  have hmeth' : T.vm.method? m = some meth := X.method'
  refine ⟨T.setFrames fs, ?_, .returned (some (.int 1)), hrun, hended, rfl, ⟨_, rfl⟩, hW, hframe⟩
  jvm_step X.here [X.here.top, hx, hb, hdg, hmeth', hr, ret, narrow_b1]
  (try refine ⟨rfl, ?_⟩); (try refine ⟨rfl, ?_⟩)
  first | (intro acts; rw [hret _ acts rfl rfl rfl]) | rw [hret _ _ rfl rfl rfl]
  exact Steps.refl _
/-- what holds at the law's entry: the machine, the code, the tables' words (any of lw_tbl by 'hts w (by decide +kernel)'), the script of L ints xs at the cell b, what the Statement gives of the start (any of its parts by flat_of_before) -/
def lw_At (p : Program) (s : State) (m : MethodId) (meth : Method) (c : Code) (b L : Nat) (xs : Nat → Int32) : Prop :=
  p.tables.exec = Jvm.exec ∧ c.code = code ∧ meth.sig.returnType = ret ∧ c.maxLocals = 8 ∧ s.vm.findClass R_law = some m.cls ∧ (∀ w ∈ lw_tbl, w.before #[Value.ref b] s = true) ∧ va_X b L xs s s.heap ∧ b < s.heap.size ∧ meth.locks = false ∧ (Jvm.Cond.and given_1 narrow_1).before #[Value.ref b] s = true ∧ c.exceptionTable.toList = [] ∧ meth.name = "law"
theorem whole_start {p : Program} {e : Env} {s : State} {m : MethodId} {below : List Frame} {meth : Method} {c : Code} (l : Launch) (hflags : l.flags = flags0) {b L : Nat} {xs : Nat → Int32} (hL : L ≤ 3072) (C0 : lw_At p s m meth c b L xs) : W p l e room_1 s m #[Value.ref b] below meth c s.heap [] 0 0 (lw_Z below #[Value.ref b] s) (entryFrame m ([Value.ref b] : List Value).toArray 8) := by
  obtain ⟨hx, hb, hr, hml, hown, hts, hX, hbl, hlocks, hgv, htab, hname⟩ := C0
  have hst : l.stackTraces = false := by
    show (!l.flags.contains noTraceFlag) = false
    rw [hflags]; decide +kernel
  obtain ⟨dC, dI, dA, tA, hW⟩ := z_WK hgv hts hX hbl (by omega)
  generalize hKe : ((s.heap.size - 1, dC, dI, dA, tA, b, L, xs) : z_K) = K at hW
  have k1 : K.1 = s.heap.size - 1 := by rw [← hKe]
  have k6 : K.2.2.2.2.2.1 = b := by rw [← hKe]
  have k7 : K.2.2.2.2.2.2.1 = L := by rw [← hKe]
  obtain ⟨fu, F, s', hF, hE⟩ := law_pure L hL K.2.2.2.2.2.2.2
  rw [← k7] at hE
  have hV := law_V (l := l) (K := K) hst hE
  have hF0 : z_F l K mL_law p s m #[Value.ref b] meth c := ⟨hx, hb, hml, hr, hlocks, hown, fun w hw => hts w (List.mem_filter.mp hw).1, htab, hname, hst, hW⟩
  have hR : z_R K 0 z_gr (fun _ _ => 0) s.heap := ⟨fun k h1 h2 => by omega, fun _ => by omega, by omega, fun k j => by
    show if (z_sh k).1 = 101 then z_L 0 else z_I 0
    by_cases q : (z_sh k).1 = 101
    · rw [if_pos q]; decide
    · rw [if_neg q]; decide⟩
  have hl := z_ent_has (K := K) (as := [vA b]) (nL := 8) (fun v hv => by rw [List.mem_singleton.mp hv]; exact (by decide : (3 : Nat) ≠ 9)) (Nat.le_of_ble_eq_true rfl)
  rw [lg_entry_eq]
  have hl2 : lv_has ((lg_sl ([Value.ref b]) ++ List.replicate (8 - (lg_sl ([Value.ref b])).length) Slot.unset).toArray) 8 (z_al K 0 [vA K.2.2.2.2.2.1, vU, vU, vU, vU, vU, vU, vU]) := by
    rw [k6]; exact hl
  have hw := hV p e room_1 s m #[Value.ref b] below meth c s.heap [] 0 0 _ hF0 (by decide) (by decide) (by show 0 + (4 * F + 7658) ≤ 601024; omega) (by show 0 + (24 * F + 194553) ≤ 7293034; omega) hR va_S.rf hl2 (fun v hv => by
    rcases List.mem_cons.mp hv with rfl | hv
    · exact z_gO (by decide) (by decide)
    · have : v = vU := by simpa using hv
      rw [this]; exact z_gO (by decide) (by decide)) z_gs0
  intro T hT X
  obtain ⟨t, a1, o, b1, b2, b3⟩ := hw T hT X
  refine ⟨t, a1, o, b1, b2, ?_⟩
  rcases b3 with ⟨⟨v, n', τ', σ', c1, c2, ⟨-, -, c3⟩, -, -, -⟩, L9, c4, c5⟩ | ⟨q, -, E, ce, L9, ⟨x, n', τ', σ', d1, ⟨-, -, d2⟩, -⟩, -⟩
  · have hv : vI 1 = v := congrArg Prod.fst (Option.some.inj c3)
    subst hv
    refine ⟨c1, c4.1, c4.2.1, ?_⟩
    obtain ⟨f1, f2, f3, f4, f5, f6⟩ := c4.2.2
    refine ⟨f1, f2, f3, f4, f5, fun a cc ha => ?_⟩
    obtain ⟨c', g1, g2, g3, g4⟩ := f6 a cc ha
    refine ⟨c', g1, g2, g3, fun i _ => g4 i fun hq => ?_⟩
    have h9 : K.1 < a := c5 _ hq
    have ha2 : a < s.heap.size := (Array.getElem?_eq_some_iff.mp ha).1
    rw [k1] at h9
    exact absurd ha2 (Nat.not_lt.mpr (Nat.le_of_pred_lt h9))
  · exact absurd (show (0 : Nat) = 6 from congrArg (fun y : z_V × z_M => y.1.1) (Option.some.inj d2)) (by decide)
set_option maxHeartbeats 4000000 in
theorem lw_walk (l : Launch) (hflags : l.flags = flags0) (b : Addr) (xs : List Int32) : MetFree l x (headSpec (Jvm.Cond.code x code maxLocals ret :: tables_1) room_1) (lw_P b xs) (fun _ _ _ _ _ => True) lw_Q := by
  refine MetFree.of_bodyS (code := code) (maxLocals := maxLocals) (ret := ret) (by decide) ?_ ?_
  · intro args s m h hn
    obtain ⟨meth, c, h1, h2, h3, h4, h5, h6, -, -⟩ := Cond.code_spec hn (atoms_spec (ws := Jvm.Cond.code x code maxLocals ret :: tables_1) h _ List.mem_cons_self)
    exact ⟨meth, c, h1, h2, h3, h4, h5, h6⟩
  · intro p e s m args below meth c s₁ B hml0 hP _
    obtain ⟨rfl, hx, hbd, hgv⟩ := hP
    obtain ⟨scr, harrAt, hlist, hof, hsmall⟩ := hx
    obtain ⟨hcb, hkn, -, -⟩ := State.arrayAt?_spec harrAt
    have hown : s.vm.findClass R_law = some m.cls := findClass_of_methodNamed B.named
    have hts0 : ∀ c ∈ (Jvm.Cond.code x code maxLocals ret :: tables_1), c.before #[Value.ref b] s = true := atoms_spec (ws := Jvm.Cond.code x code maxLocals ret :: tables_1) B.pre
    have hts : ∀ w ∈ lw_tbl, w.before #[Value.ref b] s = true := k2_hts_sels lw_privs (fun w hw => hts0 w (List.mem_cons_of_mem _ hw)) lw_privs_ok
    have hml : c.maxLocals = 8 := B.maxLocals_eq (hts0 _ List.mem_cons_self)
    have X₀ : Stand p l e room_1 s m #[Value.ref b] below meth c s₁ [] 0 0 := Stand.of_body B
    have hh0 : s₁.heap = s.heap := by rw [B.state]; rfl
    have hsz : scr.slots.size = xs.length := by rw [← Array.length_toList, hlist, List.length_map]
    have hval : ∀ j : Nat, j < xs.length → scr.slots[j]? = some (.int (xs.getD j 0)) := fun j hj => by
      rw [← Array.getElem?_toList, hlist]
      simp [hj]
    have htab : c.exceptionTable.toList = [] := by
      obtain ⟨meth9, c9, h1, h2, -, -, -, -, h7, -⟩ := Cond.code_spec B.named (hts0 _ List.mem_cons_self)
      cases Option.some.inj (h1.symm.trans B.method)
      cases Option.some.inj (h2.symm.trans (Stand.of_body B).code)
      rw [Array.isEmpty_iff.mp h7]
    have hbl : b < s.heap.size := (Array.getElem?_eq_some_iff.mp hcb).1
    have hX : va_X b xs.length (fun j => xs.getD j 0) s s.heap := ⟨scr, hcb, hof, hkn, hsz, hval⟩
    have K : W p l e room_1 s m #[Value.ref b] below meth c s₁.heap [] 0 0 (lw_Z below #[Value.ref b] s) (entryFrame m ([Value.ref b] : List Value).toArray 8) := by
      rw [hh0]
      exact whole_start l hflags hbd ⟨B.exec, B.bytes, B.returns, hml, hown, hts, hX, hbl, B.notSynchronized, hgv, htab, (name_of_methodNamed B.named B.method).1⟩
    obtain ⟨t, a1, o, b1, b2, b3⟩ := K s₁ rfl X₀
    exact ⟨t, o, a1, b1, b2, b3⟩
theorem lw_pre_spec {args : Array Value} {s : State} (h : (Jvm.Cond.and given_1 narrow_1).before args s = true) (hr : rest_1_c.before args s = true) : ∃ (b : Addr) (xs : List Int32), lw_P b xs args s := by
  have hs := flat_of_before _ h
  have hq := flat_of_before _ hr
  have hc : (Cond.count 1).before args s = true := hs _ (by decide +kernel)
  have harr : (Cond.arrayOf (.arg 0) .int).before args s = true := hs _ (by decide +kernel)
  have hle : (Cond.le (.length (.arg 0)) (.int 3072)).before args s = true := hs _ (by decide +kernel)
  have hlen : (Cond.isInt (.length (.arg 0))).before args s = true := hq _ (by decide +kernel)
  have hall : (Cond.all (.arg 0) (.isInt (.elem (.arg 0) (.index 0)))).before args s = true := hq _ (by decide +kernel)
  obtain ⟨b, xs, hb, hx⟩ := State.ints_of_pre rfl harr hlen hall
  have hsm : xs.length < 2 ^ 31 := hx.choose_spec.2.2.2
  have hev : (Term.length (.arg 0)).eval args s none [] s = some (.int xs.length.toInt32) := hx.length_eval hb
  have hv := Cond.le_ints hev (show (Term.int 3072).eval args s none [] s = some (.int 3072) from rfl)
  have hd : xs.length.toInt32 ≤ 3072 := by
    simpa [Cond.before, Cond.holds, hv] using hle
  have hN : xs.length ≤ 3072 := (Int32.ofNat_le_ofNat hsm (by decide)).mp (show Int32.ofNat xs.length ≤ Int32.ofNat 3072 from hd)
  exact ⟨b, xs, Cond.one_arg hc (show args[0]? = some (.ref b) from hb), hx, hN, h⟩
theorem lw_comes (l : Launch) (hflags : l.flags = flags0) : Comes l x (Jvm.Cond.code x code maxLocals ret :: tables_1) room_1 (fun tb e args s => Calls_1 tb e args s ∧ rest_1 tb e args s ∧ Pre_1 tb e args s)
    (fun _ _ args s o t => lw_Q args s o t) := by
  intro p e ha hc hk s m args below hf hfit hheap happ hpre
  obtain ⟨b, xs, hP⟩ := lw_pre_spec hpre.2.2 hpre.2.1
  obtain ⟨k, o, h1, h2, h3, hQ⟩ := lw_walk l hflags b xs p e ha hc hk s m args below hf ((Spec.applies_iff_loose hf).mp happ).1 hP trivial
  exact ⟨k, o, h1, h2, h3, hQ⟩
theorem lw_frame {s t : State} {o : Outcome} {args : Array Value} (h : Framed s o t [] 601024 7293034) :
    Framed s o t (fieldLocs frame_1_writes args s ++ arrayLocs frame_1_arrays args s ++ staticLocs frame_1_statics s) 601024 7293034 := h
theorem lw_limb (L : Cond) (hL : ∀ (args : Array Value) (s t : State), L.after args s (.returned (some (.int 1))) t = true) :
    ArmFor flags0 classFile x code maxLocals ret World_1 tables_1 room_1 Calls_1 rest_1 Pre_1
      (fun tb e a s o t => postC L tb e a s o t ∧ Framed s o t (fieldLocs frame_1_writes a s ++ arrayLocs frame_1_arrays a s ++ staticLocs frame_1_statics s) 601024 7293034) := by
  intro l hflags _ _ p e ha hc hk s m args below hf hfit hheap happ hpre
  obtain ⟨k, o, h1, h2, h3, rfl, hF⟩ := lw_comes l hflags p e ha hc hk s m args below hf hfit hheap happ hpre
  exact ⟨k, _, h1, h2, h3, hL args s _, lw_frame hF⟩
theorem i_vc : Claimed_1_1 ∧ Claimed_1_2 := ⟨lw_limb limb_1_1 (fun args s t => by simp [limb_1_1, Cond.after, Cond.holds, Cond.value]), lw_limb limb_1_2 (fun args s t => Cond.after_iff.mpr (by
  first | (rw [show limb_1_2 = Cond.eq .result (.int 1) from rfl, Cond.eq_ints (x := 1) (y := 1) rfl rfl]; simp; done) | (simp [limb_1_2, Cond.value, Term.eval]; done)))⟩

