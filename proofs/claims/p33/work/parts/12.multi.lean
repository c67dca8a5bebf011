/-! THE LAYER, 8: new int[n][m], new int[n][m][k]: the making of an array of arrays, level by level, over the machine's own words (follows the ways of the library's laws for two dimensions) -/
theorem z_arrV_congr {c : ClassId} {n : Nat} {f g : Nat → Value} (h : ∀ j : Nat, j < n → f j = g j) : arrV c n f = arrV c n g := by
  unfold arrV
  congr 1
  apply Array.ext
  · simp
  · intro w h5 h6
    have hw : w < n := by simpa using h5
    simpa using h w hw
section ZM
variable {p : Program} {l : Launch} {e : Env} {R : Room} {s : State} {m : MethodId} {args : Array Value} {below : List Frame} {meth : Method} {c : Code}
/-- f makes CB cells of SB slots, that look as G says, and answers the first -/
def z_Mk (p : Program) (l : Launch) (e : Env) (R : Room) (s : State) (m : MethodId) (args : Array Value) (below : List Frame) (meth : Method) (c : Code) (vm0 : Vm) (g : JFrame) (f : Sem Addr) (CB SB : Nat) (G : Nat → Nat → Cell) : Prop :=
  ∀ (U : State) (locs : List Loc) (cells slots : Nat), Stand p l e R s m args below meth c U locs cells slots → cells + CB ≤ R.cells → slots + SB ≤ R.slots → U.vm = vm0 → ∀ (E : CtlPost) (d : Bool) (acts : List Action) (Q : Addr → Pre),
    (∀ (d' : Bool) (acts' : List Action) (U' : State) (L : List Loc), Stand p l e R s m args below meth c U' (locs ++ L) (cells + CB) (slots + SB) → U'.vm = vm0 → U'.heap.size = U.heap.size + CB → (∀ q : Nat, q < U.heap.size → U'.heap[q]? = U.heap[q]?) →
      (∀ j : Nat, j < CB → U'.heap[U.heap.size + j]? = some (G U.heap.size j)) → (∀ z ∈ L, U.heap.size ≤ z.base) → Q U.heap.size d' acts' (U'.setTop g)) →
    wp f Q E e d acts (U.setTop g)
theorem z_newArr {E : CtlPost} {d : Bool} {acts : List Action} {s0 : State} {c0 comp : ClassId} {k : Class} {type : FieldType} {len : Nat} {init : Value} (hk : s0.vm.classes[c0]? = some k) (hkind : k.kind = .array comp type)
    (hlimit : ¬ len > e.platform.arrayLengthLimit) (hheap : ¬ len * componentBytes type > e.platform.maxHeapBytes) (hfit : fits type init = true) (hdef : init.isDefault = true) {Q : Addr → Pre}
    (h1 : s0.heap.size < e.platform.maxCells) (h2 : s0.slotsUsed + len ≤ e.platform.maxSlots)
    (hq : Q s0.heap.size d acts (s0.pushCell { cls := c0, slots := Array.replicate len init, vm := .none })) :
    wp (Jvm.newArray c0 len init) Q E e d acts s0 := by
  have hfits : ∀ i v, (Array.replicate len init)[i]? = some v → s0.fitsSlot c0 .none i v = true := by
    intro i v hv
    simp only [Array.getElem?_replicate] at hv
    split at hv
    · cases hv; simp [State.fitsSlot, State.slotType?, hk, hkind, hfit]
    · cases hv
  have hda : allocActs (Array.replicate len init) s0.heap.size acts = acts := by
    have hall : ((Array.replicate len init).all (·.isDefault)) = true := by
      rw [Array.all_replicate]; split <;> simp [hdef]
    unfold allocActs; rw [if_pos hall]
  simp only [Jvm.newArray, Jvm.arrayFits, wp_bind', W.ask, W.ite, hlimit, if_false, wp_pure', W.theClass, hk, hkind, hheap, W.alloc, W.stop, Option.some.injEq, exists_eq_left', Array.size_replicate, hda]
  rw [if_neg (by omega)]
  exact ⟨h1, h2, hfits, hq⟩
/-- a row of ints -/
theorem z_Mk1 {vm0 : Vm} {g : JFrame} {cI q : ClassId} {k : Class} {n : Int32} (hk : vm0.classes[cI]? = some k) (hkind : k.kind = .array q .int) (hn : ¬ n < 0) (hb : n.toNatClampNeg ≤ 100000) :
    z_Mk p l e R s m args below meth c vm0 g (Op.multianewarray.make cI [n]) 1 n.toNatClampNeg (fun _ _ => arrV cI n.toNatClampNeg (fun _ => .int 0)) := by
  intro U locs cells slots X hc hs hvm E d acts Q hq
  obtain ⟨hr1, hr2⟩ := X.roomAbove hc hs
  have hk' : (U.setTop g).vm.classes[cI]? = some k := by show U.vm.classes[cI]? = _; rw [hvm]; exact hk
  have hl1 : ¬ n.toNatClampNeg > e.platform.arrayLengthLimit := by rw [Launch.admits_arrayLengthLimit X.admits]; omega
  have hh1 : ¬ n.toNatClampNeg * componentBytes .int > e.platform.maxHeapBytes := by
    rw [Launch.admits_maxHeapBytes X.admits]; show ¬ n.toNatClampNeg * 4 > 536870912; omega
  rw [Op.multianewarray.make]
  simp only [wp_bind', W.ite, hn, if_false, wp_pure', W.theClass, hk', hkind, Option.some.injEq, exists_eq_left']
  refine z_newArr hk' hkind hl1 hh1 rfl rfl (by show U.heap.size < _; omega) (by show U.slotsUsed + _ ≤ _; omega) ?_
  have h := X.pushed ({ cls := cI, slots := Array.replicate n.toNatClampNeg (defaultValue .int), vm := .none } : Cell)
  rw [Array.size_replicate] at h
  have h2 := hq d acts (U.pushCell { cls := cI, slots := Array.replicate n.toNatClampNeg (defaultValue .int), vm := .none }) [] (by rw [List.append_nil]; exact h) hvm (by simp [State.pushCell]) (fun q9 h9 => State.heap_pushCell_of_lt _ _ h9) (fun j hj => by
    have h0 : j = 0 := by omega
    subst h0
    rw [Nat.add_zero, State.heap_pushCell_size, arrV_new]
    rfl) (fun z hz => by cases hz)
  exact h2
/-- an array of what f makes -/
theorem z_MkN {vm0 : Vm} {g : JFrame} {cI q : ClassId} {k : Class} {t0 : FieldType} {n r0 : Int32} {rs : List Int32} {CB SB : Nat} {G : Nat → Nat → Cell} (hk : vm0.classes[cI]? = some k) (hkind : k.kind = .array q t0) (href : t0.isReference = true) (hn : ¬ n < 0) (hb : n.toNatClampNeg ≤ 100000)
    (hfind : ((r0 :: rs).find? (· < 0)) = none) (hCB : 0 < CB) (hin : z_Mk p l e R s m args below meth c vm0 g (Op.multianewarray.make q (r0 :: rs)) CB SB G) :
    z_Mk p l e R s m args below meth c vm0 g (Op.multianewarray.make cI (n :: r0 :: rs)) (1 + n.toNatClampNeg * CB) (n.toNatClampNeg + n.toNatClampNeg * SB)
      (fun b j => if j = 0 then arrV cI n.toNatClampNeg (fun i => .ref (b + 1 + i * CB)) else G (b + 1 + (j - 1) / CB * CB) ((j - 1) % CB)) := by
  intro U locs cells slots X hc hs hvm E d acts Q hq
  obtain ⟨hr1, hr2⟩ := X.roomAbove hc hs
  have hk' : (U.setTop g).vm.classes[cI]? = some k := by show U.vm.classes[cI]? = _; rw [hvm]; exact hk
  have hfr : ∀ v : Value, (v = .null ∨ ∃ a, v = .ref a) → fits t0 v = true := by
    rintro v (rfl | ⟨a, rfl⟩) <;> cases t0 <;> simp [FieldType.isReference] at href <;> rfl
  have hcb : componentBytes t0 = 4 := by cases t0 <;> simp [FieldType.isReference] at href <;> rfl
  have hl1 : ¬ n.toNatClampNeg > e.platform.arrayLengthLimit := by rw [Launch.admits_arrayLengthLimit X.admits]; omega
  have hh1 : ¬ n.toNatClampNeg * componentBytes t0 > e.platform.maxHeapBytes := by
    rw [Launch.admits_maxHeapBytes X.admits, hcb]; omega
  rw [Op.multianewarray.make]
  simp only [wp_bind', W.ite, hn, if_false, wp_pure', W.theClass, hk', hkind, Option.some.injEq, exists_eq_left']
  refine z_newArr hk' hkind hl1 hh1 (hfr _ (Or.inl rfl)) rfl (by show U.heap.size < _; omega) (by show U.slotsUsed + _ ≤ _; omega) ?_
  simp only [hfind]
  rw [ite_self, wp_bind', Std.Legacy.Range.forIn_eq_forIn_range']
  have hsz : ([:n.toNatClampNeg] : Std.Legacy.Range).size = n.toNatClampNeg := by simp [Std.Legacy.Range.size]
  rw [hsz]
  show wp (forIn (List.range' 0 n.toNatClampNeg 1) PUnit.unit _) _ E e d acts _
  have X0 := X.pushed ({ cls := cI, slots := Array.replicate n.toNatClampNeg .null, vm := .none } : Cell)
  rw [Array.size_replicate] at X0
  refine wp_forIn_inv (fun rest s' => ∃ (i : Nat) (U1 : State) (L : List Loc), i ≤ n.toNatClampNeg ∧ rest = List.range' i (n.toNatClampNeg - i) ∧ s' = U1.setTop g ∧ Stand p l e R s m args below meth c U1 (locs ++ L) (cells + 1 + i * CB) (slots + n.toNatClampNeg + i * SB) ∧ U1.vm = vm0 ∧ U1.heap.size = U.heap.size + 1 + i * CB ∧ (∀ q9 : Nat, q9 < U.heap.size → U1.heap[q9]? = U.heap[q9]?) ∧
    U1.heap[U.heap.size]? = some (arrV cI n.toNatClampNeg (fun j => if j < i then .ref (U.heap.size + 1 + j * CB) else .null)) ∧ (∀ i9 j : Nat, i9 < i → j < CB → U1.heap[U.heap.size + 1 + i9 * CB + j]? = some (G (U.heap.size + 1 + i9 * CB) j)) ∧ (∀ z ∈ L, U.heap.size ≤ z.base)) _ _ ?_ ?_ ?_
  · refine ⟨0, U.pushCell { cls := cI, slots := Array.replicate n.toNatClampNeg .null, vm := .none }, [], Nat.zero_le _, rfl, rfl, ?_, hvm, by simp [State.pushCell], fun q9 h9 => State.heap_pushCell_of_lt _ _ h9, ?_, fun i9 j h9 => absurd h9 (Nat.not_lt_zero _), fun z hz => by cases hz⟩
    · rw [List.append_nil, Nat.zero_mul, Nat.zero_mul]
      exact X0
    · rw [State.heap_pushCell_size, arrV_new]
      simp
  · rintro x rest s' d' acts' Q' ⟨i, U1, L, hi, hl, rfl, X1, hv1, z1, o1, e1, g1, hL⟩ hnext
    have hlt : i < n.toNatClampNeg := by
      rcases Nat.lt_or_ge i n.toNatClampNeg with h | h
      · exact h
      · rw [show n.toNatClampNeg - i = 0 from by omega] at hl; simp at hl
    obtain ⟨rfl, hrest⟩ : x = i ∧ rest = List.range' (i + 1) (n.toNatClampNeg - (i + 1)) := by
      rw [show n.toNatClampNeg - i = (n.toNatClampNeg - (i + 1)) + 1 from by omega, List.range'_succ] at hl
      exact ⟨(List.cons.inj hl).1, (List.cons.inj hl).2⟩
    have m1 : (x + 1) * CB ≤ n.toNatClampNeg * CB := Nat.mul_le_mul_right CB hlt
    have m2 : (x + 1) * SB ≤ n.toNatClampNeg * SB := Nat.mul_le_mul_right SB hlt
    have a1 : (x + 1) * CB = x * CB + CB := Nat.succ_mul _ _
    have a2 : (x + 1) * SB = x * SB + SB := Nat.succ_mul _ _
    simp only [wp_bind']
    refine hin U1 (locs ++ L) _ _ X1 (by omega) (by omega) hv1 E d' acts' _ (fun d2 acts2 U2 L2 X2 hv2 z2 o2 g2 hL2 => ?_)
    have hlt0 : U.heap.size < U1.heap.size := by omega
    have e2 : U2.heap[U.heap.size]? = some (arrV cI n.toNatClampNeg (fun j => if j < x then .ref (U.heap.size + 1 + j * CB) else .null)) := by rw [o2 _ hlt0]; exact e1
    simp only [wp_bind', W.writeLoc, wp_pure']
    have hk2 : (U2.setTop g).vm.classes[cI]? = some k := by show U2.vm.classes[cI]? = _; rw [hv2]; exact hk
    have X3 := X2.stored e2 x (.ref U1.heap.size)
    have hlt2 : U.heap.size < U2.heap.size := by omega
    refine ⟨_, e2, by simp [arrV], by rw [arrV_size]; exact hlt, ?_, hnext _ _ _ ⟨x + 1, U2.setCell U.heap.size ((arrV cI n.toNatClampNeg (fun j => if j < x then .ref (U.heap.size + 1 + j * CB) else .null)).setSlot x (.ref U1.heap.size)), L ++ L2 ++ [⟨U.heap.size, x⟩], hlt, hrest, rfl, ?_, hv2, by rw [size_setCell, z2, z1]; omega, ?_, ?_, ?_, ?_⟩⟩
    · show (U2.setTop g).fitsSlot cI .none x _ = true
      have hk3 : U2.vm.classes[cI]? = some k := by rw [hv2]; exact hk
      simp [State.fitsSlot, State.slotType?, hk3, hkind, hfr _ (Or.inr ⟨_, rfl⟩)]
    · rw [← List.append_assoc, ← List.append_assoc]
      have ea : cells + 1 + (x + 1) * CB = cells + 1 + x * CB + CB := by omega
      have eb : slots + n.toNatClampNeg + (x + 1) * SB = slots + n.toNatClampNeg + x * SB + SB := by omega
      rw [ea, eb]
      exact X3
    · intro q9 h9
      have hne : U.heap.size ≠ q9 := by omega
      rw [heapAt_setCell_ne _ hne, o2 _ (by omega)]
      exact o1 q9 h9
    · rw [heapAt_setCell_self _ hlt2, arrV_store]
      congr 2
      funext j
      by_cases ej : j = x
      · subst ej
        simp [updV, z1]
      · by_cases hj : j < x
        · simp [updV, ej, hj, Nat.lt_succ_of_lt hj]
        · simp [updV, ej, hj, show ¬ j < x + 1 by omega]
    · intro i9 j h9 hj
      have hne : ∀ w : Nat, U.heap.size ≠ U.heap.size + 1 + w + j := fun w => by omega
      rw [heapAt_setCell_ne _ (hne _)]
      by_cases ei : i9 = x
      · subst ei
        have := g2 j hj
        rw [z1] at this
        exact this
      · have m3 : (i9 + 1) * CB ≤ x * CB := Nat.mul_le_mul_right CB (by omega)
        have a3 : (i9 + 1) * CB = i9 * CB + CB := Nat.succ_mul _ _
        rw [o2 _ (by omega)]
        exact g1 i9 j (by omega) hj
    · intro z hz
      rcases List.mem_append.mp hz with hz | hz
      · rcases List.mem_append.mp hz with hz | hz
        · exact hL z hz
        · have := hL2 z hz; omega
      · rw [List.mem_singleton.mp hz]
        exact Nat.le_refl _
  · rintro s' d' acts' ⟨i, U1, L, hi, hl, rfl, X1, hv1, z1, o1, e1, g1, hL⟩
    have hiN : i = n.toNatClampNeg := by
      rcases Nat.lt_or_ge i n.toNatClampNeg with h | h
      · rw [show n.toNatClampNeg - i = (n.toNatClampNeg - (i + 1)) + 1 from by omega, List.range'_succ] at hl; cases hl
      · omega
    subst hiN
    simp only [wp_pure']
    have ea : cells + (1 + n.toNatClampNeg * CB) = cells + 1 + n.toNatClampNeg * CB := by omega
    have eb : slots + (n.toNatClampNeg + n.toNatClampNeg * SB) = slots + n.toNatClampNeg + n.toNatClampNeg * SB := by omega
    refine hq d' acts' U1 L (by rw [ea, eb]; exact X1) hv1 (by rw [z1]; omega) o1 (fun j hj => ?_) hL
    dsimp only
    by_cases e0 : j = 0
    · subst e0
      rw [if_pos rfl, Nat.add_zero, e1]
      rw [z_arrV_congr (fun w hw => if_pos hw)]
    · rw [if_neg e0]
      have hdm := Nat.div_add_mod (j - 1) CB
      rw [Nat.mul_comm] at hdm
      have hmod := Nat.mod_lt (j - 1) hCB
      have hdiv : (j - 1) / CB < n.toNatClampNeg := Nat.div_lt_of_lt_mul (by rw [Nat.mul_comm]; omega)
      have := g1 _ _ hdiv hmod
      rw [show U.heap.size + 1 + (j - 1) / CB * CB + (j - 1) % CB = U.heap.size + j by omega] at this
      exact this
end ZM
theorem z_instr {tb : Tables} [Ours tb] {e : Env} {below : List Frame} {s : State} {f : JFrame} {c : Code} {i : Instr} {len : Nat} (h : At s f.method c below) (hd : decode c.code f.pc = .ok (i, len)) {P : State → Prop}
    (hw : wpRun (tb.exec i) (fun _ s₁ _ => P s₁) (fun _ _ _ => False) e (s.setTop f)) : ∃ s₁, P s₁ ∧ ∀ target, (∀ acts, Steps tb e below (afterInstr e len (.ok () s₁ acts)).1 target) → Steps tb e below (s.setTop f) target := by
  have hw := (wpRun_iff_run _ _ _ _ _).mp hw
  cases hr : (tb.exec i).run e (s.setTop f) with
  | ok a s₁ acts =>
    rw [hr] at hw
    refine ⟨s₁, hw, fun target ht => ?_⟩
    refine Steps.head ⟨h.running, by rw [State.curStatus?_setTop]; exact h.runnable, by rw [State.alone_setTop]; exact h.alone⟩ (h.within f) ?_
    rw [stepThread_java (State.frames_setTop' f h.top) h.plain h.code hd, hr]
    exact ht acts
  | ctl x s₁ acts =>
    rw [hr] at hw
    cases x <;> exact hw.elim
theorem z_mstep2 {p : Program} {l : Launch} {e : Env} {R : Room} {s : State} {m : MethodId} {args : Array Value} {below : List Frame} {meth : Method} {c : Code} {H : Heap} {locs : List Loc} {cells slots idx CB SB pc : Nat} {ls : Array Slot} {rest : List Value} {own nm : String} {cI : ClassId} {n1 n2 : Int32} {G : Nat → Nat → Cell} {Q0 : State → Prop}
    (hexec : p.tables.exec = Jvm.exec) (hown : s.vm.findClass own = some m.cls) (hclink : (Cond.classLink own idx nm).before args s = true) (hfc : s.vm.findClass nm = some cI) (hdg : decode c.code pc = .ok (.multianewarray idx 2, 4)) (hcells : cells + CB ≤ R.cells) (hslots : slots + SB ≤ R.slots)
    (hmk : ∀ (vm0 : Vm) (g : JFrame), s.vm.Alike vm0 → z_Mk p l e R s m args below meth c vm0 g (Op.multianewarray.make cI [n1, n2]) CB SB G)
    (kk : ∀ (H' : Heap), H'.size = H.size + CB → (∀ q : Nat, q < H.size → H'[q]? = H[q]?) → (∀ j : Nat, j < CB → H'[H.size + j]? = some (G H.size j)) → W p l e R s m args below meth c H' locs (cells + CB) (slots + SB) Q0 (F0 m (pc + 4) ls (.ref H.size :: rest))) :
    W p l e R s m args below meth c H locs cells slots Q0 (F0 m pc ls (.int n2 :: .int n1 :: rest)) := by
  intro T hT X
  subst hT
  have hpl : e.platform.magicAccessors = ({} : Platform).magicAccessors := by rw [X.admits.platform]
  obtain ⟨c0, hfc0, hcl⟩ := Cond.classLink_spec hown hclink e.platform hpl
  cases hfc.symm.trans hfc0
  obtain ⟨hg₁, hwarm₁, hready₁⟩ := State.classEntry (e := e) X.warmed hcl
  generalize T.vm.noted m.cls idx (.cls cI) = vm₁ at hg₁ hwarm₁ hready₁
  have X₁ := X.noted hwarm₁
  have hP := z_instr (tb := p.tables) (e := e) (below := below) (f := F0 m pc ls (.int n2 :: .int n1 :: rest)) X.here hdg
    (P := fun s₁ => ∃ (U' : State) (L : List Loc), Stand p l e R s m args below meth c U' (locs ++ L) (cells + CB) (slots + SB) ∧ U'.heap.size = T.heap.size + CB ∧ (∀ q : Nat, q < T.heap.size → U'.heap[q]? = T.heap[q]?) ∧ (∀ j : Nat, j < CB → U'.heap[T.heap.size + j]? = some (G T.heap.size j)) ∧ (∀ z ∈ L, T.heap.size ≤ z.base) ∧ s₁ = U'.setTop (F0 m pc ls (.ref T.heap.size :: rest))) (by
      rw [hexec]
      simp only [wpRun, exec, Op.multianewarray.sem, wp_bind', W.resolveClassAt_links (State.method?_setTop (F0 m pc ls (.int n2 :: .int n1 :: rest)) X.here.top) hg₁]
      rw [W.popN, if_neg (by decide)]
      refine ⟨F0 m pc ls (.int n2 :: .int n1 :: rest), State.topJava?_setTop' (s := T.setVm vm₁) _ X.here.top, [.int n1, .int n2], rest, rfl, rfl, ?_⟩
      simp only [List.mapM_cons, List.mapM_nil, wp_bind', wp_pure']
      have eS : ((T.setTop (F0 m pc ls (.int n2 :: .int n1 :: rest))).setVm vm₁).setTop (F0 m pc ls rest) = (T.setVm vm₁).setTop (F0 m pc ls rest) := by
        show ((T.setVm vm₁).setTop _).setTop _ = _
        rw [State.setTop_setTop]
      show wp _ _ _ e _ _ (((T.setTop (F0 m pc ls (.int n2 :: .int n1 :: rest))).setVm vm₁).setTop (F0 m pc ls rest))
      rw [eS]
      refine hmk vm₁ (F0 m pc ls rest) hwarm₁.alike (T.setVm vm₁) locs cells slots X₁ hcells hslots rfl _ _ _ _ (fun d' acts' U' L a1 a2 a3 a4 a5 a6 => ?_)
      simp only [wp_bind', W.mark, W.pushRef, State.topJava?_setTop' _ a1.here.top, Option.some.injEq, exists_eq_left', State.setTop_setTop]
      exact ⟨U', L, a1, a3, a4, a5, a6, rfl⟩)
  obtain ⟨s₁, ⟨U', L, a1, a3, a4, a5, a6, rfl⟩, hst⟩ := hP
  have X2 := Stand.forget (extra := L) a1 (fun z hz => Nat.le_trans X.heapGrown (a6 z hz))
  obtain ⟨t, b1, b2⟩ := kk U'.heap a3 a4 a5 U' rfl X2
  refine ⟨t, hst t (fun acts => ?_), b2⟩
  rw [afterInstr_ok]
  exact b1
theorem z_mstep3 {p : Program} {l : Launch} {e : Env} {R : Room} {s : State} {m : MethodId} {args : Array Value} {below : List Frame} {meth : Method} {c : Code} {H : Heap} {locs : List Loc} {cells slots idx CB SB pc : Nat} {ls : Array Slot} {rest : List Value} {own nm : String} {cI : ClassId} {n1 n2 n3 : Int32} {G : Nat → Nat → Cell} {Q0 : State → Prop}
    (hexec : p.tables.exec = Jvm.exec) (hown : s.vm.findClass own = some m.cls) (hclink : (Cond.classLink own idx nm).before args s = true) (hfc : s.vm.findClass nm = some cI) (hdg : decode c.code pc = .ok (.multianewarray idx 3, 4)) (hcells : cells + CB ≤ R.cells) (hslots : slots + SB ≤ R.slots)
    (hmk : ∀ (vm0 : Vm) (g : JFrame), s.vm.Alike vm0 → z_Mk p l e R s m args below meth c vm0 g (Op.multianewarray.make cI [n1, n2, n3]) CB SB G)
    (kk : ∀ (H' : Heap), H'.size = H.size + CB → (∀ q : Nat, q < H.size → H'[q]? = H[q]?) → (∀ j : Nat, j < CB → H'[H.size + j]? = some (G H.size j)) → W p l e R s m args below meth c H' locs (cells + CB) (slots + SB) Q0 (F0 m (pc + 4) ls (.ref H.size :: rest))) :
    W p l e R s m args below meth c H locs cells slots Q0 (F0 m pc ls (.int n3 :: .int n2 :: .int n1 :: rest)) := by
  intro T hT X
  subst hT
  have hpl : e.platform.magicAccessors = ({} : Platform).magicAccessors := by rw [X.admits.platform]
  obtain ⟨c0, hfc0, hcl⟩ := Cond.classLink_spec hown hclink e.platform hpl
  cases hfc.symm.trans hfc0
  obtain ⟨hg₁, hwarm₁, hready₁⟩ := State.classEntry (e := e) X.warmed hcl
  generalize T.vm.noted m.cls idx (.cls cI) = vm₁ at hg₁ hwarm₁ hready₁
  have X₁ := X.noted hwarm₁
  have hP := z_instr (tb := p.tables) (e := e) (below := below) (f := F0 m pc ls (.int n3 :: .int n2 :: .int n1 :: rest)) X.here hdg
    (P := fun s₁ => ∃ (U' : State) (L : List Loc), Stand p l e R s m args below meth c U' (locs ++ L) (cells + CB) (slots + SB) ∧ U'.heap.size = T.heap.size + CB ∧ (∀ q : Nat, q < T.heap.size → U'.heap[q]? = T.heap[q]?) ∧ (∀ j : Nat, j < CB → U'.heap[T.heap.size + j]? = some (G T.heap.size j)) ∧ (∀ z ∈ L, T.heap.size ≤ z.base) ∧ s₁ = U'.setTop (F0 m pc ls (.ref T.heap.size :: rest))) (by
      rw [hexec]
      simp only [wpRun, exec, Op.multianewarray.sem, wp_bind', W.resolveClassAt_links (State.method?_setTop (F0 m pc ls (.int n3 :: .int n2 :: .int n1 :: rest)) X.here.top) hg₁]
      rw [W.popN, if_neg (by decide)]
      refine ⟨F0 m pc ls (.int n3 :: .int n2 :: .int n1 :: rest), State.topJava?_setTop' (s := T.setVm vm₁) _ X.here.top, [.int n1, .int n2, .int n3], rest, rfl, rfl, ?_⟩
      simp only [List.mapM_cons, List.mapM_nil, wp_bind', wp_pure']
      have eS : ((T.setTop (F0 m pc ls (.int n3 :: .int n2 :: .int n1 :: rest))).setVm vm₁).setTop (F0 m pc ls rest) = (T.setVm vm₁).setTop (F0 m pc ls rest) := by
        show ((T.setVm vm₁).setTop _).setTop _ = _
        rw [State.setTop_setTop]
      show wp _ _ _ e _ _ (((T.setTop (F0 m pc ls (.int n3 :: .int n2 :: .int n1 :: rest))).setVm vm₁).setTop (F0 m pc ls rest))
      rw [eS]
      refine hmk vm₁ (F0 m pc ls rest) hwarm₁.alike (T.setVm vm₁) locs cells slots X₁ hcells hslots rfl _ _ _ _ (fun d' acts' U' L a1 a2 a3 a4 a5 a6 => ?_)
      simp only [wp_bind', W.mark, W.pushRef, State.topJava?_setTop' _ a1.here.top, Option.some.injEq, exists_eq_left', State.setTop_setTop]
      exact ⟨U', L, a1, a3, a4, a5, a6, rfl⟩)
  obtain ⟨s₁, ⟨U', L, a1, a3, a4, a5, a6, rfl⟩, hst⟩ := hP
  have X2 := Stand.forget (extra := L) a1 (fun z hz => Nat.le_trans X.heapGrown (a6 z hz))
  obtain ⟨t, b1, b2⟩ := kk U'.heap a3 a4 a5 U' rfl X2
  refine ⟨t, hst t (fun acts => ?_), b2⟩
  rw [afterInstr_ok]
  exact b1
