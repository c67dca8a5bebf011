/-! THE LAYER, 10: the making of the objects: references that are not yet set -/
def z_pm : List (Int × Nat) → Int → Nat
  | [], _ => 0
  | q :: P, a => if a = q.1 then q.2 else z_pm P a
def z_pd (P : List (Int × Nat)) : z_M := fun a b => if (z_pm P a).testBit b.toNat then 0 else z_gr a b
def z_zs (σ : z_M) (n : Nat) : Prop := ∀ a : Int, (n : Int) < a → σ a = fun _ => 0
theorem z_zs.mono {σ : z_M} {n m : Nat} (h : z_zs σ n) (hm : n ≤ m) : z_zs σ m := fun a ha => h a (by omega)
theorem z_zs.up {σ : z_M} {n : Nat} {k j v : Int} (h : z_zs σ n) (hk : k ≤ (n : Int)) : z_zs (z_up σ k j v) n := fun a ha => by
  rw [z_up_row (by omega)]; exact h a ha
theorem z_zs.nw {σ : z_M} {n : Nat} {k : Int} (h : z_zs σ n) (hk : (n : Int) < k) : z_nw σ k = σ := funext fun a => by
  by_cases e : a = k
  · rw [e, z_nw_s, h k hk]
  · rw [z_nw_ne e]
theorem z_zs.m0 {σ : z_M} {n m : Nat} (h : z_zs σ n) : z_m0 σ n m = σ := funext fun a => by
  by_cases e : (n : Int) < a ∧ a ≤ (m : Int)
  · rw [z_m0_in e, h a e.1]
  · rw [z_m0_out e]
theorem z_e_ref {K : z_K} {k : Int} {f g g' : Int → Int} (h : ((z_sh k).1 < 100 ∨ 103 ≤ (z_sh k).1) → ∀ j : Nat, g j = g' j) : z_e K k f g = z_e K k f g' := by
  unfold z_e
  by_cases h1 : (z_sh k).1 < 100
  · rw [if_pos h1, if_pos h1]
    have e : z_fs K (z_sh k).1 f g = z_fs K (z_sh k).1 f g' := by
      unfold z_fs
      exact List.map_congr_left fun j _ => by rw [h (Or.inl h1) j]
    rw [e]
  · rw [if_neg h1, if_neg h1]
    by_cases h2 : (z_sh k).1 = 101
    · rw [if_pos h2, if_pos h2]
    · rw [if_neg h2, if_neg h2]
      by_cases h3 : (z_sh k).1 < 103
      · rw [if_pos h3, if_pos h3]
      · rw [if_neg h3, if_neg h3]
        have e : (fun j : Nat => z_o K (g (j : Int))) = fun j : Nat => z_o K (g' (j : Int)) := funext fun j => by rw [h (Or.inr (by omega)) j]
        rw [e]
theorem z_clr {m m' j : Nat} (h : m.testBit j = true) (h2 : m ^^^ 2 ^ j = m') : ∀ i, m'.testBit i = (m.testBit i && i != j) := by
  subst h2
  intro i
  rw [Nat.testBit_xor, Nat.testBit_two_pow]
  by_cases e : j = i
  · subst e; simp [h]
  · have : i ≠ j := fun q => e q.symm
    simp [e, this]
theorem z_mk {k : Int} {mk : Nat} (h : k ≤ 314) (hb : ∀ j, j < (z_grX.getD k.toNat []).length → mk.testBit j = true ∨ (z_grX.getD k.toNat []).getD j 0 = 0) : ∀ j : Nat, mk.testBit j = false → z_gr k (j : Int) = 0 := by
  intro j hj
  unfold z_gr
  rw [if_pos h, Int.toNat_natCast]
  by_cases e : j < (z_grX.getD k.toNat []).length
  · rcases hb j e with h1 | h1
    · rw [hj] at h1; cases h1
    · exact h1
  · rw [List.getD_eq_getElem?_getD, List.getElem?_eq_none (by omega)]; rfl
section ZP
variable {l : Launch} {K : z_K} {M : z_Me} {fr lo bc bs pc : Nat} {lv st : List z_V} {n : Nat} {τ σ : z_M} {Q : z_Q}
theorem V_congr {τ' : z_M} (h : ∀ a : Nat, 1 ≤ a → a ≤ n → ((z_sh (a : Int)).1 < 100 ∨ 103 ≤ (z_sh (a : Int)).1) → ∀ j : Nat, τ (a : Int) (j : Int) = τ' (a : Int) (j : Int)) (kk : V l K M fr lo bc bs pc lv st n τ' σ Q) : V l K M fr lo bc bs pc lv st n τ σ Q := by
  intro p e R s m args below meth cd H locs cells slots ls F h1 h2 h3 h4 hR hS hl hg hG
  exact kk p e R s m args below meth cd H locs cells slots ls F h1 h2 h3 h4 (z_R_congr hR fun k k1 k2 => z_e_ref (h k k1 k2)) hS hl hg hG
theorem P_newk {P : List (Int × Nat)} {k : Int} {mk n2 : Nat} {bc2 bs2 pc2 : Nat} {st2 : List z_V} (hk : k = ((n + 1 : Nat) : Int)) (hz : z_zs σ n) (hm : ∀ j : Nat, mk.testBit j = false → z_gr k (j : Int) = 0)
    (kk : V l K M fr lo bc2 bs2 pc2 lv st2 n2 (z_pd ((k, mk) :: P)) σ Q) : V l K M fr lo bc2 bs2 pc2 lv st2 n2 (z_nw (z_pd P) k) (z_nw σ k) Q := by
  rw [hz.nw (by omega)]
  refine V_congr (fun a a1 a2 _ j => ?_) kk
  by_cases e : (a : Int) = k
  · rw [e, z_nw_s]
    show (0 : Int) = if (if k = k then mk else z_pm P k).testBit ((j : Int).toNat) then 0 else z_gr k j
    rw [if_pos rfl, Int.toNat_natCast]
    cases hb : mk.testBit j
    · rw [hm j hb]; rfl
    · rfl
  · rw [z_nw_ne e]
    show z_pd P a j = if (if (a : Int) = k then mk else z_pm P a).testBit ((j : Int).toNat) then 0 else z_gr a j
    rw [if_neg e]
    rfl
theorem P_new {c idx N bc2 bs2 n2 mk : Nat} {C : String} {T : u_T} {ty : Nat → FieldType} {k : Int} {P : List (Int × Nat)} (hd : decode M.2.1 pc = .ok (.new idx, 3)) (hc : z_CL c C T N ty) (hw : Cond.classLink M.1.cls idx C ∈ z_tbl) (hi : Cond.instantiable C N ∈ z_tbl) (hini : Cond.initialized C ∈ z_tbl) (hn : n < z_NC) (hn2 : n + 1 = n2) (hk : k = ((n + 1 : Nat) : Int)) (hs : (z_sh k).1 = c) (hb : bc2 + 1 ≤ bc ∧ bs2 + N ≤ bs)
    (hz : z_zs σ n) (hm : ∀ j : Nat, mk.testBit j = false → z_gr k (j : Int) = 0)
    (kk : V l K M fr lo bc2 bs2 (pc + 3) lv (vR k :: st) n2 (z_pd ((k, mk) :: P)) σ Q) : V l K M fr lo bc bs pc lv st n (z_pd P) σ Q :=
  V_new hd hc hw hi hini hn hn2 hk hs hb (P_newk hk hz hm kk)
theorem P_newa {c bc2 bs2 n2 : Nat} {at0 : ArrayType} {ty : FieldType} {k len : Int} (hd : decode M.2.1 pc = .ok (.newarray at0, 2)) (hw : Cond.arrayClass ty ∈ z_tbl) (hn : n < z_NC) (hn2 : n + 1 = n2) (hk : k = ((n + 1 : Nat) : Int)) (hs : z_sh k = (c, len.toNat)) (hl5 : 0 ≤ len ∧ len ≤ 20100) (hb : bc2 + 1 ≤ bc ∧ bs2 + len.toNat ≤ bs)
    (hz : z_zs σ n) (hty : newarray.typeOf at0 = ty) (hc : (c = 100 ∧ ty = .int) ∨ (c = 101 ∧ ty = .long) ∨ (c = 102 ∧ ty = .boolean))
    (kk : V l K M fr lo bc2 bs2 (pc + 2) lv (vR k :: st) n2 τ σ Q) : V l K M fr lo bc bs pc lv (vI len :: st) n τ σ Q := by
  refine V_newa (t0 := 0) hd hw hn hn2 hk hs hl5 hb ?_ hty hc
  rw [hz.nw (by omega)]
  refine V_congr (fun a a1 a2 hc2 j => ?_) kk
  by_cases e : (a : Int) = k
  · exfalso
    rw [e, hs] at hc2
    have hc3 : c < 100 ∨ 103 ≤ c := hc2
    rcases hc with ⟨h, _⟩ | ⟨h, _⟩ | ⟨h, _⟩ <;> omega
  · rw [z_nw_ne e]
theorem P_anew {idx bc2 bs2 n2 mk : Nat} {k len : Int} {P : List (Int × Nat)} (hd : decode M.2.1 pc = .ok (.anewarray idx, 3)) (hw : Cond.classLink M.1.cls idx RX9 ∈ z_tbl) (hn : n < z_NC) (hn2 : n + 1 = n2) (hk : k = ((n + 1 : Nat) : Int)) (hs : z_sh k = (104, len.toNat)) (hl5 : 0 ≤ len ∧ len ≤ 20100) (hb : bc2 + 1 ≤ bc ∧ bs2 + len.toNat ≤ bs)
    (hz : z_zs σ n) (hm : ∀ j : Nat, mk.testBit j = false → z_gr k (j : Int) = 0)
    (kk : V l K M fr lo bc2 bs2 (pc + 3) lv (vR k :: st) n2 (z_pd ((k, mk) :: P)) σ Q) : V l K M fr lo bc bs pc lv (vI len :: st) n (z_pd P) σ Q :=
  V_anew hd hw hn hn2 hk hs hl5 hb (P_newk hk hz hm kk)
theorem P_mnew {P : List (Int × Nat)} {n2 bc2 bs2 pc2 : Nat} {st2 : List z_V} (hz : z_zs σ n) (hP : ∀ a : Int, (n : Int) < a → z_pm P a = 0)
    (kk : V l K M fr lo bc2 bs2 pc2 lv st2 n2 (z_pd P) σ Q) : V l K M fr lo bc2 bs2 pc2 lv st2 n2 (z_mg (z_pd P) n n2) (z_m0 σ n n2) Q := by
  rw [hz.m0]
  have e : z_mg (z_pd P) n n2 = z_pd P := funext fun a => by
    by_cases h : (n : Int) < a ∧ a ≤ (n2 : Int)
    · rw [z_mg_in h]
      funext b
      show z_gr a b = if (z_pm P a).testBit b.toNat then 0 else z_gr a b
      rw [hP a h.1]; simp
    · rw [z_mg_out h]
  rw [e]
  exact kk
theorem z_pd_up {P P' : List (Int × Nat)} {m' j : Nat} {k x : Int} (hx : z_gr k (j : Int) = x) (hP : ∀ a : Int, z_pm P' a = if a = k then m' else z_pm P a) (hm : ∀ i : Nat, m'.testBit i = ((z_pm P k).testBit i && i != j)) (a : Int) (i : Nat) :
    z_up (z_pd P) k (j : Int) x a (i : Int) = z_pd P' a (i : Int) := by
  show _ = if (z_pm P' a).testBit ((i : Int).toNat) then 0 else z_gr a i
  rw [hP a, Int.toNat_natCast]
  by_cases e : a = k
  · rw [if_pos e, hm i]
    by_cases e2 : i = j
    · subst e2
      rw [e, z_up_s, ← hx]; simp
    · rw [z_up_j (by omega)]
      show (if (z_pm P a).testBit ((i : Int).toNat) then 0 else z_gr a i) = _
      rw [Int.toNat_natCast, e]
      have : (i != j) = true := by simp [e2]
      rw [this, Bool.and_true]
  · rw [if_neg e, z_up_k e]
    show (if (z_pm P a).testBit ((i : Int).toNat) then 0 else z_gr a i) = _
    rw [Int.toNat_natCast]
theorem z_h0 {P : List (Int × Nat)} {k : Int} {m m' : Nat} (a : Int) : z_pm ((k, m') :: P) a = if a = k then m' else z_pm ((k, m) :: P) a := by
  show (if a = k then m' else z_pm P a) = if a = k then m' else (if a = k then m else z_pm P a)
  by_cases e : a = k
  · rw [if_pos e, if_pos e]
  · rw [if_neg e, if_neg e, if_neg e]
theorem z_h1 {P : List (Int × Nat)} {k y : Int} {m m' m1 : Nat} (hy : y ≠ k) (a : Int) : z_pm ((y, m1) :: (k, m') :: P) a = if a = k then m' else z_pm ((y, m1) :: (k, m) :: P) a := by
  show (if a = y then m1 else if a = k then m' else z_pm P a) = if a = k then m' else (if a = y then m1 else if a = k then m else z_pm P a)
  by_cases e : a = y
  · have e2 : a ≠ k := fun q => hy (e ▸ q)
    rw [if_pos e, if_neg e2, if_pos e]
  · rw [if_neg e, if_neg e]
    by_cases e2 : a = k
    · rw [if_pos e2, if_pos e2]
    · rw [if_neg e2, if_neg e2, if_neg e2]
theorem P_putR {c j idx N m' : Nat} {C : String} {T : u_T} {ty : Nat → FieldType} {k x : Int} {P P' : List (Int × Nat)} (hd : decode M.2.1 pc = .ok (.putfield idx, 3)) (hc : z_CL c C T N ty) (hj : j < N) (hw : Cond.fieldLink M.1.cls idx (T j).1 (T j).2.1 (T j).2.2.1 ∈ z_tbl) (hfin : (T j).2.2.2 = true) (hin : M.1.name = "<init>") (hdecl : (T j).1 = M.1.cls) (h7 : z_ft c j = 2) (h5 : 1 ≤ k) (h6 : k ≤ n) (hs : (z_sh k).1 = c)
    (hx : z_gr k (j : Int) = x) (hP : ∀ a : Int, z_pm P' a = if a = k then m' else z_pm P a) (hm : ∀ i : Nat, m'.testBit i = ((z_pm P k).testBit i && i != j))
    (kk : V l K M fr lo bc bs (pc + 3) lv st n (z_pd P') σ Q) : V l K M fr lo bc bs pc lv (vR x :: vR k :: st) n (z_pd P) σ Q :=
  V_putR hd hc hj hw hfin hin hdecl h7 h5 h6 hs (V_congr (fun a _ _ _ i => z_pd_up hx hP hm a i) kk)
theorem P_aast {m' j : Nat} {k i x : Int} {P P' : List (Int × Nat)} (hd : decode M.2.1 pc = .ok (.aastore, 1)) (h5 : 1 ≤ k) (h6 : k ≤ n) (hs : (z_sh k).1 = 104) (hi : i = (j : Int)) (h8 : i < (z_sh k).2) (hx1 : 1 ≤ x) (hx2 : x ≤ n) (hxs : (z_sh x).1 = 9)
    (hx : z_gr k (j : Int) = x) (hP : ∀ a : Int, z_pm P' a = if a = k then m' else z_pm P a) (hm : ∀ i : Nat, m'.testBit i = ((z_pm P k).testBit i && i != j))
    (kk : V l K M fr lo bc bs (pc + 1) lv st n (z_pd P') σ Q) : V l K M fr lo bc bs pc lv (vR x :: vI i :: vR k :: st) n (z_pd P) σ Q := by
  subst hi
  exact V_aast hd h5 h6 hs (by omega) h8 hx1 hx2 hxs (V_congr (fun a _ _ _ i => z_pd_up hx hP hm a i) kk)
theorem P_pop {k : Int} {P : List (Int × Nat)} (hP : z_pm P k = 0) (kk : V l K M fr lo bc bs pc lv st n (z_pd P) σ Q) : V l K M fr lo bc bs pc lv st n (z_pd ((k, 0) :: P)) σ Q := by
  have e : z_pd ((k, 0) :: P) = z_pd P := funext fun a => funext fun b => by
    show (if (if a = k then 0 else z_pm P a).testBit b.toNat then 0 else z_gr a b) = if (z_pm P a).testBit b.toNat then 0 else z_gr a b
    by_cases q : a = k
    · rw [if_pos q, q, hP]
    · rw [if_neg q]
  rw [e]; exact kk
def z_IQ (n2 : Nat) (τ2 σ2 : z_M) : z_Q := fun v n τ σ => v = vN ∧ n = n2 ∧ τ = τ2 ∧ σ = σ2
theorem P_ret (hd : decode M.2.1 pc = .ok (.return_, 1)) (hr : M.2.2.2.1 = none) : V l K M fr lo bc bs pc lv [] n τ σ (z_IQ n τ σ) := V_vret hd ⟨rfl, rfl, rfl, rfl⟩ hr
theorem P_callI {idx na fr2 lo2 mc ms bc2 bs2 n2 : Nat} {M2 : z_Me} {as : List z_V} {k : Int} {τ2 σ2 : z_M} (hd : decode M.2.1 pc = .ok (.invokespecial idx, 3)) (hM : z_MOK M2) (hV : z_IOK M2 na) (hw : Cond.methodLink M.1.cls idx M2.1 ∈ z_tbl) (hC : z_C l K M2 fr2 lo2 mc ms (vR k :: as) n τ σ (z_IQ n2 τ2 σ2))
    (hn : as.length = na) (h5 : 1 ≤ k) (hrm : z_rm fr lo bc bs fr2 M2.2.2.1 lo2 mc ms bc2 bs2 st)
    (kk : V l K M fr lo bc2 bs2 (pc + 3) lv st n2 τ2 σ2 Q) : V l K M fr lo bc bs pc lv (as.reverse ++ vR k :: st) n τ σ Q :=
  V_callI hd hM hV hw hC hn h5 hrm (fun v n' τ' σ' _ _ h => by obtain ⟨h1, h2, h3, h4⟩ := h; subst h1; subst h2; subst h3; subst h4; exact kk) (fun x n' τ' σ' h => absurd (show (6 : Nat) = 5 from congrArg Prod.fst h.1) (by decide))
theorem P_callIN {idx na fr2 lo2 mc ms bc2 bs2 n2 : Nat} {M2 : z_Me} {as : List z_V} {k : Int} {τ2 σ2 : z_M} (hd : decode M.2.1 pc = .ok (.invokespecial idx, 3)) (hM : z_MOK M2) (hV : z_IOK M2 na) (hw : M2.1 = yX9_init ∧ ((M.1.cls = RX11 ∧ idx = z_n11) ∨ (M.1.cls = RX2 ∧ idx = z_n2))) (hC : z_C l K M2 fr2 lo2 mc ms (vR k :: as) n τ σ (z_IQ n2 τ2 σ2))
    (hn : as.length = na) (h5 : 1 ≤ k) (hrm : z_rm fr lo bc bs fr2 M2.2.2.1 lo2 mc ms bc2 bs2 st)
    (kk : V l K M fr lo bc2 bs2 (pc + 3) lv st n2 τ2 σ2 Q) : V l K M fr lo bc bs pc lv (as.reverse ++ vR k :: st) n τ σ Q :=
  V_callIN hd hM hV hw hC hn h5 hrm (fun v n' τ' σ' _ _ h => by obtain ⟨h1, h2, h3, h4⟩ := h; subst h1; subst h2; subst h3; subst h4; exact kk) (fun x n' τ' σ' h => absurd (show (6 : Nat) = 5 from congrArg Prod.fst h.1) (by decide))
theorem P_callV {idx na c fr2 lo2 mc ms bc2 bs2 n2 : Nat} {M2 : z_Me} {as : List z_V} {k : Int} {τ2 σ2 : z_M} {r : vw_C} (hd : decode M.2.1 pc = .ok (.invokevirtual idx, 3)) (hM : z_MOK M2) (hV : z_VOK M2 na) (hw : Cond.methodLink M.1.cls idx M2.1 ∈ z_tbl) (hC : z_C l K M2 fr2 lo2 mc ms (vR k :: as) n τ σ (z_IQ n2 τ2 σ2))
    (hn : as.length = na) (h5 : 1 ≤ k) (h6 : k ≤ n) (hs : (z_sh k).1 = c) (hc : c < 100) (hcl : vwCl[c]? = some r) (hcn : r.1 = M2.1.cls) (hrm : z_rm fr lo bc bs fr2 M2.2.2.1 lo2 mc ms bc2 bs2 st)
    (kk : V l K M fr lo bc2 bs2 (pc + 3) lv st n2 τ2 σ2 Q) : V l K M fr lo bc bs pc lv (as.reverse ++ vR k :: st) n τ σ Q :=
  V_callV hd hM hV hw hC hn h5 h6 hs hc hcl hcn hrm (fun v n' τ' σ' _ _ h => by obtain ⟨h1, h2, h3, h4⟩ := h; subst h1; subst h2; subst h3; subst h4; exact kk) (fun x n' τ' σ' h => absurd (show (6 : Nat) = 5 from congrArg Prod.fst h.1) (by decide))
theorem P_of {mc ms : Nat} {as : List z_V} (hst : l.stackTraces = false) (hM : z_MOK M) (hlv : z_en as M.2.2.1 = lv) (h : V l K M fr lo mc ms 0 lv [] n τ σ Q) (hl : (z_ent as).length ≤ M.2.2.1) (h9 : z_n9 as = true) : z_C l K M fr lo mc ms as n τ σ Q := by
  subst hlv
  exact z_C_of hst hM h hl (z_n9_ok h9)
end ZP
theorem z_p1 {P : List (Int × Nat)} {k : Int} : ∀ i : Nat, (0 : Nat).testBit i = ((z_pm ((k, 1) :: P) k).testBit i && i != 0) := by
  intro i
  have e : z_pm ((k, 1) :: P) k = 1 := if_pos rfl
  rw [e, Nat.zero_testBit]
  cases i with
  | zero => rfl
  | succ i => simp [Nat.testBit_succ]
theorem i_X7 {l : Launch} {K : z_K} {σ : z_M} {P : List (Int × Nat)} {n n2 sl : Nat} {k len : Int} (hst : l.stackTraces = false) (hz : z_zs σ n) (h5 : 1 ≤ k) (h6 : k ≤ n) (hs : (z_sh k).1 = 7) (hn2 : n + 1 = n2) (hn : n < z_NC) (ha : z_sh ((n + 1 : Nat) : Int) = (100, len.toNat)) (hl : 1 ≤ len ∧ len ≤ 20100) (hsl : len.toNat = sl)
    (hg : z_gr k 0 = ((n + 1 : Nat) : Int)) (hp : z_pm P k = 0) : z_C l K mX7_init 1 14 1 sl [vR k, vI len] n (z_pd ((k, 1) :: P)) σ (z_IQ n2 (z_pd P) σ) := by
  subst hsl
  refine P_of (lv := [vR k, vI len]) hst z_mX7_init rfl ?_ (Nat.le_of_ble_eq_true rfl) rfl
  refine V_aload_n (v := vR k) (pc := 0) dX7_init_0 rfl ?_ (Or.inl rfl)
  refine V_obj (st := []) (pc := 1) dX7_init_1 z_wX7_1 z_obj1 z_obj2 h5 (by decide) (Nat.le_of_ble_eq_true rfl) ?_
  refine V_aload_n (v := vR k) (pc := 4) dX7_init_4 rfl ?_ (Or.inl rfl)
  refine V_iload_n (x := len) (pc := 5) dX7_init_5 rfl ?_
  refine V_if_le (tgt := 13) (pc := 6) dX7_init_6 (fun h => absurd h (by omega)) (fun _ => ?_)
  refine V_iload_n (x := len) (pc := 9) dX7_init_9 rfl ?_
  refine V_goto (tgt := 14) (pc := 10) dX7_init_10 ?_
  refine P_newa (k := ((n + 1 : Nat) : Int)) (bc2 := 0) (bs2 := 0) (n2 := n2) (ty := .int) (pc := 14) dX7_init_14 z_arint hn hn2 rfl ha (by omega) (by omega) hz rfl (Or.inl ⟨rfl, rfl⟩) ?_
  refine P_putR (j := 0) (m' := 0) (P' := (k, 0) :: P) (pc := 16) dX7_init_16 z_CLX7 (by decide) z_wX7_7 rfl rfl rfl (by decide) h5 (by omega) hs hg z_h0 z_p1 ?_
  refine P_pop hp ?_
  exact P_ret dX7_init_19 rfl
theorem i_X4 {l : Launch} {K : z_K} {σ : z_M} {P : List (Int × Nat)} {n n2 sl : Nat} {k len : Int} (hst : l.stackTraces = false) (hz : z_zs σ n) (h5 : 1 ≤ k) (h6 : k ≤ n) (hs : (z_sh k).1 = 4) (hn2 : n + 1 = n2) (hn : n < z_NC) (ha : z_sh ((n + 1 : Nat) : Int) = (101, len.toNat)) (hl : 1 ≤ len ∧ len ≤ 20100) (hsl : len.toNat = sl)
    (hg : z_gr k 0 = ((n + 1 : Nat) : Int)) (hp : z_pm P k = 0) : z_C l K mX4_init 1 14 1 sl [vR k, vI len] n (z_pd ((k, 1) :: P)) σ (z_IQ n2 (z_pd P) σ) := by
  subst hsl
  refine P_of (lv := [vR k, vI len]) hst z_mX4_init rfl ?_ (Nat.le_of_ble_eq_true rfl) rfl
  refine V_aload_n (v := vR k) (pc := 0) dX4_init_0 rfl ?_ (Or.inl rfl)
  refine V_obj (st := []) (pc := 1) dX4_init_1 z_wX4_1 z_obj1 z_obj2 h5 (by decide) (Nat.le_of_ble_eq_true rfl) ?_
  refine V_aload_n (v := vR k) (pc := 4) dX4_init_4 rfl ?_ (Or.inl rfl)
  refine V_iload_n (x := len) (pc := 5) dX4_init_5 rfl ?_
  refine V_if_le (tgt := 13) (pc := 6) dX4_init_6 (fun h => absurd h (by omega)) (fun _ => ?_)
  refine V_iload_n (x := len) (pc := 9) dX4_init_9 rfl ?_
  refine V_goto (tgt := 14) (pc := 10) dX4_init_10 ?_
  refine P_newa (k := ((n + 1 : Nat) : Int)) (bc2 := 0) (bs2 := 0) (n2 := n2) (ty := .long) (pc := 14) dX4_init_14 z_arlong hn hn2 rfl ha (by omega) (by omega) hz rfl (Or.inr (Or.inl ⟨rfl, rfl⟩)) ?_
  refine P_putR (j := 0) (m' := 0) (P' := (k, 0) :: P) (pc := 16) dX4_init_16 z_CLX4 (by decide) z_wX4_7 rfl rfl rfl (by decide) h5 (by omega) hs hg z_h0 z_p1 ?_
  refine P_pop hp ?_
  exact P_ret dX4_init_19 rfl
theorem i_put {l : Launch} {K : z_K} {τ σ : z_M} {n : Nat} {k c i x : Int} (hst : l.stackTraces = false) (h5 : 1 ≤ k) (h6 : k ≤ n) (hs : (z_sh k).1 = 7) (hc : τ k 0 = c) (c5 : 1 ≤ c) (c6 : c ≤ n) (cs : (z_sh c).1 = 100) (hi : 0 ≤ i) (h8 : i < (z_sh c).2) (hb : z_I (((z_sh c).2 : Nat) : Int)) :
    z_C l K mX7_put 0 0 0 0 [vR k, vI i, vI x] n τ σ (z_IQ n τ (z_up σ c i x)) := by
  refine P_of (lv := [vR k, vI i, vI x]) hst z_mX7_put rfl ?_ (Nat.le_of_ble_eq_true rfl) rfl
  refine V_iload_n (x := i) (pc := 0) dX7_put_0 rfl ?_
  refine V_if_lt (tgt := 20) (pc := 1) dX7_put_1 (fun h => absurd h (by omega)) (fun _ => ?_)
  refine V_iload_n (x := i) (pc := 4) dX7_put_4 rfl ?_
  refine V_aload_n (v := vR k) (pc := 5) dX7_put_5 rfl ?_ (Or.inl rfl)
  refine V_getR (r := c) (j := 0) (pc := 6) dX7_put_6 z_CLX7 (by decide) z_wX7_7 (by decide) h5 h6 hs hc ?_
  refine V_alen (x := (((z_sh c).2 : Nat) : Int)) (c := 100) (t0 := 0) (ty := .int) (pc := 9) dX7_put_9 c5 c6 cs rfl ?_ (by decide) rfl hb
  refine V_icmp_ge (tgt := 20) (pc := 10) dX7_put_10 (fun h => absurd h (by omega)) (fun _ => ?_)
  refine V_aload_n (v := vR k) (pc := 13) dX7_put_13 rfl ?_ (Or.inl rfl)
  refine V_getR (r := c) (j := 0) (pc := 14) dX7_put_14 z_CLX7 (by decide) z_wX7_7 (by decide) h5 h6 hs hc ?_
  refine V_iload_n (x := i) (pc := 17) dX7_put_17 rfl ?_
  refine V_iload_n (x := x) (pc := 18) dX7_put_18 rfl ?_
  refine V_iast (pc := 19) dX7_put_19 c5 c6 cs hi h8 ?_
  exact P_ret dX7_put_20 rfl
