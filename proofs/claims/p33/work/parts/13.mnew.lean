/-! THE LAYER, 9: arrays of arrays, as rules -/
def z_mg (τ : z_M) (n m : Nat) : z_M := fun a b => if (n : Int) < a ∧ a ≤ (m : Int) then z_gr a b else τ a b
def z_m0 (σ : z_M) (n m : Nat) : z_M := fun a b => if (n : Int) < a ∧ a ≤ (m : Int) then 0 else σ a b
theorem z_mg_in {τ : z_M} {n m : Nat} {a : Int} (h : (n : Int) < a ∧ a ≤ (m : Int)) : z_mg τ n m a = z_gr a := funext fun _ => if_pos h
theorem z_mg_out {τ : z_M} {n m : Nat} {a : Int} (h : ¬ ((n : Int) < a ∧ a ≤ (m : Int))) : z_mg τ n m a = τ a := funext fun _ => if_neg h
theorem z_m0_in {τ : z_M} {n m : Nat} {a : Int} (h : (n : Int) < a ∧ a ≤ (m : Int)) : z_m0 τ n m a = fun _ => 0 := funext fun _ => if_pos h
theorem z_m0_out {τ : z_M} {n m : Nat} {a : Int} (h : ¬ ((n : Int) < a ∧ a ≤ (m : Int))) : z_m0 τ n m a = τ a := funext fun _ => if_neg h
theorem z_R_multi {K : z_K} {n CB : Nat} {τ σ : z_M} {H H' : Heap} (hR : z_R K n τ σ H) (hn : n < z_NC) (hs : H'.size = H.size + CB) (ho : ∀ q : Nat, q < H.size → H'[q]? = H[q]?)
    (hk : ∀ j : Nat, j < CB → va_at (K.2.1, K.2.2.1) vwCl (H.size + j, z_e K ((n + 1 + j : Nat) : Int) (fun _ => 0) (z_gr ((n + 1 + j : Nat) : Int))) H') : z_R K (n + CB) (z_mg τ n (n + CB)) (z_m0 σ n (n + CB)) H' := by
  have hz := hR.2.1 hn
  refine ⟨fun i i1 i2 => ?_, fun h => by rw [hs, hz]; omega, by rw [hs, hz]; omega, ?_⟩
  · by_cases e : n < i
    · have e1 : (n : Int) < (i : Int) ∧ (i : Int) ≤ ((n + CB : Nat) : Int) := by omega
      rw [z_mg_in e1, z_m0_in e1]
      have h := hk (i - (n + 1)) (by omega)
      have e2 : n + 1 + (i - (n + 1)) = i := by omega
      have e3 : H.size + (i - (n + 1)) = K.1 + i := by omega
      rw [e2, e3] at h
      exact h
    · have e1 : ¬ ((n : Int) < (i : Int) ∧ (i : Int) ≤ ((n + CB : Nat) : Int)) := by omega
      rw [z_mg_out e1, z_m0_out e1]
      exact (hR.1 i i1 (by omega)).kept (ho _ (by show K.1 + i < H.size; omega))
  · intro a b
    by_cases e : (n : Int) < a ∧ a ≤ ((n + CB : Nat) : Int)
    · rw [z_m0_in e]
      by_cases e2 : (z_sh a).1 = 101
      · rw [if_pos e2]; show z_L 0; decide
      · rw [if_neg e2]; show z_I 0; decide
    · rw [z_m0_out e]; exact hR.2.2.2 a b
theorem z_S_news {A : Nat → Prop} {H0 H H1 : Heap} {locs : List Loc} {CB : Nat} (hS : va_S A H0 H locs) (z1 : H1.size = H.size + CB) (o1 : ∀ q : Nat, q < H.size → H1[q]? = H[q]?) : va_S A H0 H1 locs :=
  ⟨Nat.le_trans hS.1 (by omega), fun x h1 h2 => (o1 x (Nat.lt_of_lt_of_le h1 hS.1)).trans (hS.2.1 x h1 h2), hS.2.2⟩
theorem z_row_at {K : z_K} {k : Int} {N a : Nat} {H : Heap} (hs : z_sh k = (100, N)) (f : Int → Int) (g : Int → Int) (h : H[a]? = some (arrV (K.2.2.2.1 100) N (fun j => .int (Int32.ofInt (f (j : Int)))))) : va_at (K.2.1, K.2.2.1) vwCl (a, z_e K k f g) H := by
  unfold z_e
  rw [hs]
  dsimp only
  rw [if_neg (by decide), if_neg (by decide), if_pos (by decide)]
  show H[a]? = some (vp_cell _ _)
  rw [h, vp_cell_i]
theorem z_ref_at {K : z_K} {k : Int} {c N a : Nat} {H : Heap} (hs : z_sh k = (c, N)) (hc : 103 ≤ c) (f : Int → Int) (g : Int → Int) (h : H[a]? = some (arrV (K.2.2.2.1 c) N (fun j => va_rf (z_o K (g (j : Int)))))) : va_at (K.2.1, K.2.2.1) vwCl (a, z_e K k f g) H := by
  unfold z_e
  rw [hs]
  dsimp only
  rw [if_neg (by omega), if_neg (by omega), if_neg (by omega)]
  show H[a]? = some (vp_cell _ _)
  rw [h, vp_cell_q]
theorem z_o_at {K : z_K} {k : Int} {a : Nat} (h1 : 1 ≤ k) (h2 : K.1 + k.toNat = a) : va_rf (z_o K k) = .ref a := by
  unfold z_o
  rw [if_neg (by omega), h2]
  rfl
theorem z_zero32 : Int32.ofInt 0 = 0 := by decide
section ZQ
variable {l : Launch} {K : z_K} {M : z_Me} {fr lo bc bs pc : Nat} {lv st : List z_V} {n : Nat} {τ σ : z_M} {Q : z_Q}
theorem V_mnew2 {idx bc2 bs2 n2 N1 N2 : Nat} {k : Int} (hd : decode M.2.1 pc = .ok (.multianewarray idx 2, 4)) (hw : Cond.classLink M.1.cls idx "[[I" ∈ z_tbl) (hn : n < z_NC) (hn2 : n + (1 + N1) = n2) (hk : k = ((n + 1 : Nat) : Int)) (hN1 : 1 ≤ N1 ∧ N1 ≤ 20100) (hN2 : N2 ≤ 20100)
    (hs : z_sh k = (103, N1)) (hs2 : ∀ i : Nat, i < N1 → z_sh (k + 1 + (i : Int)) = (100, N2)) (hg1 : ∀ i : Nat, i < N1 → z_gr k (i : Int) = k + 1 + (i : Int)) (hb : bc2 + (1 + N1) ≤ bc ∧ bs2 + (N1 + N1 * N2) ≤ bs)
    (kk : V l K M fr lo bc2 bs2 (pc + 4) lv (vR k :: st) n2 (z_mg τ n n2) (z_m0 σ n n2) Q) : V l K M fr lo bc bs pc lv (vI (N2 : Int) :: vI (N1 : Int) :: st) n τ σ Q := by
  intro p e R s m args below meth cd H locs cells slots ls F h1 h2 h3 h4 hR hS hl hg hG
  subst hn2
  have hts := F.2.2.2.2.2.2.1
  have hK := F.2.2.2.2.2.2.2.2.2.2.1
  have hX := F.2.2.2.2.2.2.2.2.2.2.2.2.2.2.2
  obtain ⟨-, -, -, -, -, -, -, ⟨k1, q1, a1, b1⟩, ⟨k2, a2, b2⟩, -⟩ := hX
  have hz := hR.2.1 hn
  have i1 : z_I (N1 : Int) := by omega
  have i2 : z_I (N2 : Int) := by omega
  have c1 : (Int32.ofInt (N1 : Int)).toNatClampNeg = N1 := by rw [z_clamp (by omega) i1.2]; omega
  have c2 : (Int32.ofInt (N2 : Int)).toNatClampNeg = N2 := by rw [z_clamp (by omega) i2.2]; omega
  have g1 : ¬ Int32.ofInt (N1 : Int) < 0 := fun q9 => by
    have h9 := (z_lt i1 z_I0).mp q9
    omega
  have g2 : ¬ Int32.ofInt (N2 : Int) < 0 := fun q9 => by
    have h9 := (z_lt i2 z_I0).mp q9
    omega
  rw [List.map_cons, List.map_cons]
  show W p l e R s m args below meth cd H locs cells slots _ (F0 m pc ls (.int (Int32.ofInt (N2 : Int)) :: .int (Int32.ofInt (N1 : Int)) :: _))
  have hcl : s.vm.findClass "[[I" = some (K.2.2.2.1 103) := (hK.2 3 _ rfl).2
  have hmk : ∀ (vm0 : Vm) (g : JFrame), s.vm.Alike vm0 → z_Mk p l e R s m args below meth cd vm0 g (Op.multianewarray.make (K.2.2.2.1 103) [Int32.ofInt (N1 : Int), Int32.ofInt (N2 : Int)]) (1 + (Int32.ofInt (N1 : Int)).toNatClampNeg * 1) ((Int32.ofInt (N1 : Int)).toNatClampNeg + (Int32.ofInt (N1 : Int)).toNatClampNeg * (Int32.ofInt (N2 : Int)).toNatClampNeg) _ := fun vm0 g hv => by
    obtain ⟨k1', d1, e1⟩ := hv.2.2 _ _ a1
    obtain ⟨k2', d2, e2⟩ := hv.2.2 _ _ a2
    exact z_MkN (t0 := .array .int) d2 (by rw [e2]; exact b2) rfl g1 (by rw [c1]; omega) (by simp [g2]) (by decide) (z_Mk1 d1 (by rw [e1]; exact b1) g2 (by rw [c2]; omega))
  rw [c1, c2] at hmk
  refine z_mstep2 F.1 F.2.2.2.2.2.1 (hts _ hw) hcl (by rw [F.2.1]; exact hd) (by omega) (by omega) hmk fun H' z1 o1 g9 => ?_
  have e9 : Value.ref H.size = z_c K (vR k) := by
    have e8 : H.size = K.1 + k.toNat := by omega
    show _ = z_rv K k
    rw [z_rv_pos (by omega), ← e8]
  rw [e9, Nat.mul_one]
  rw [Nat.mul_one] at z1 g9
  refine kk p e R s m args below meth cd H' locs (cells + (1 + N1)) (slots + (N1 + N1 * N2)) ls F h1 h2 (by omega) (by omega) (z_R_multi hR hn z1 o1 fun j hj => ?_) (z_S_news hS z1 o1) hl hg (z_gc (z_gR k) (z_gt (z_gt hG)))
  have g8 := g9 j hj
  by_cases e0 : j = 0
  · subst e0
    rw [if_pos rfl] at g8
    have ek : ((n + 1 + 0 : Nat) : Int) = k := by omega
    rw [ek]
    refine z_ref_at hs (by omega) _ _ ?_
    rw [g8]
    refine congrArg some (z_arrV_congr fun i hi => ?_)
    rw [hg1 i hi, z_o_at (by omega) (a := H.size + 0 + 1 + i * 1) (by omega)]
  · rw [if_neg e0] at g8
    have ek : ((n + 1 + j : Nat) : Int) = k + 1 + ((j - 1 : Nat) : Int) := by omega
    rw [ek]
    refine z_row_at (hs2 _ (by omega)) _ _ ?_
    rw [g8]
    refine congrArg some (z_arrV_congr fun i hi => ?_)
    rw [z_zero32]
theorem V_mnew3 {idx bc2 bs2 n2 N1 N2 N3 : Nat} {k : Int} (hd : decode M.2.1 pc = .ok (.multianewarray idx 3, 4)) (hw : Cond.classLink M.1.cls idx "[[[I" ∈ z_tbl) (hn : n < z_NC) (hn2 : n + (1 + N1 * (1 + N2)) = n2) (hk : k = ((n + 1 : Nat) : Int)) (hN1 : 1 ≤ N1 ∧ N1 ≤ 20100) (hN2 : 1 ≤ N2 ∧ N2 ≤ 20100) (hN3 : N3 ≤ 20100)
    (hs : z_sh k = (105, N1)) (hs2 : ∀ i : Nat, i < N1 → z_sh (k + 1 + ((i * (1 + N2) : Nat) : Int)) = (103, N2)) (hs3 : ∀ i j : Nat, i < N1 → j < N2 → z_sh (k + 1 + ((i * (1 + N2) : Nat) : Int) + 1 + (j : Int)) = (100, N3))
    (hg1 : ∀ i : Nat, i < N1 → z_gr k (i : Int) = k + 1 + ((i * (1 + N2) : Nat) : Int)) (hg2 : ∀ i j : Nat, i < N1 → j < N2 → z_gr (k + 1 + ((i * (1 + N2) : Nat) : Int)) (j : Int) = k + 1 + ((i * (1 + N2) : Nat) : Int) + 1 + (j : Int))
    (hb : bc2 + (1 + N1 * (1 + N2)) ≤ bc ∧ bs2 + (N1 + N1 * (N2 + N2 * N3)) ≤ bs)
    (kk : V l K M fr lo bc2 bs2 (pc + 4) lv (vR k :: st) n2 (z_mg τ n n2) (z_m0 σ n n2) Q) : V l K M fr lo bc bs pc lv (vI (N3 : Int) :: vI (N2 : Int) :: vI (N1 : Int) :: st) n τ σ Q := by
  intro p e R s m args below meth cd H locs cells slots ls F h1 h2 h3 h4 hR hS hl hg hG
  subst hn2
  have hts := F.2.2.2.2.2.2.1
  have hK := F.2.2.2.2.2.2.2.2.2.2.1
  have hX := F.2.2.2.2.2.2.2.2.2.2.2.2.2.2.2
  obtain ⟨-, -, -, -, -, -, -, ⟨k1, q1, a1, b1⟩, ⟨k2, a2, b2⟩, ⟨k3, a3, b3⟩, -⟩ := hX
  have hz := hR.2.1 hn
  have i1 : z_I (N1 : Int) := by omega
  have i2 : z_I (N2 : Int) := by omega
  have i3 : z_I (N3 : Int) := by omega
  have c1 : (Int32.ofInt (N1 : Int)).toNatClampNeg = N1 := by rw [z_clamp (by omega) i1.2]; omega
  have c2 : (Int32.ofInt (N2 : Int)).toNatClampNeg = N2 := by rw [z_clamp (by omega) i2.2]; omega
  have c3 : (Int32.ofInt (N3 : Int)).toNatClampNeg = N3 := by rw [z_clamp (by omega) i3.2]; omega
  have g1 : ¬ Int32.ofInt (N1 : Int) < 0 := fun q9 => by
    have h9 := (z_lt i1 z_I0).mp q9
    omega
  have g2 : ¬ Int32.ofInt (N2 : Int) < 0 := fun q9 => by
    have h9 := (z_lt i2 z_I0).mp q9
    omega
  have g3 : ¬ Int32.ofInt (N3 : Int) < 0 := fun q9 => by
    have h9 := (z_lt i3 z_I0).mp q9
    omega
  rw [List.map_cons, List.map_cons, List.map_cons]
  show W p l e R s m args below meth cd H locs cells slots _ (F0 m pc ls (.int (Int32.ofInt (N3 : Int)) :: .int (Int32.ofInt (N2 : Int)) :: .int (Int32.ofInt (N1 : Int)) :: _))
  have hcl : s.vm.findClass "[[[I" = some (K.2.2.2.1 105) := (hK.2 5 _ rfl).2
  have hmk : ∀ (vm0 : Vm) (g : JFrame), s.vm.Alike vm0 → z_Mk p l e R s m args below meth cd vm0 g (Op.multianewarray.make (K.2.2.2.1 105) [Int32.ofInt (N1 : Int), Int32.ofInt (N2 : Int), Int32.ofInt (N3 : Int)]) (1 + (Int32.ofInt (N1 : Int)).toNatClampNeg * (1 + (Int32.ofInt (N2 : Int)).toNatClampNeg * 1)) ((Int32.ofInt (N1 : Int)).toNatClampNeg + (Int32.ofInt (N1 : Int)).toNatClampNeg * ((Int32.ofInt (N2 : Int)).toNatClampNeg + (Int32.ofInt (N2 : Int)).toNatClampNeg * (Int32.ofInt (N3 : Int)).toNatClampNeg)) _ := fun vm0 g hv => by
    obtain ⟨k1', d1, e1⟩ := hv.2.2 _ _ a1
    obtain ⟨k2', d2, e2⟩ := hv.2.2 _ _ a2
    obtain ⟨k3', d3, e3⟩ := hv.2.2 _ _ a3
    exact z_MkN (t0 := .array (.array .int)) d3 (by rw [e3]; exact b3) rfl g1 (by rw [c1]; omega) (by simp [g2, g3]) (by omega) (z_MkN (t0 := .array .int) d2 (by rw [e2]; exact b2) rfl g2 (by rw [c2]; omega) (by simp [g3]) (by decide) (z_Mk1 d1 (by rw [e1]; exact b1) g3 (by rw [c3]; omega)))
  rw [c1, c2, c3, Nat.mul_one] at hmk
  refine z_mstep3 F.1 F.2.2.2.2.2.1 (hts _ hw) hcl (by rw [F.2.1]; exact hd) (by omega) (by omega) hmk fun H' z1 o1 g9 => ?_
  have e9 : Value.ref H.size = z_c K (vR k) := by
    have e8 : H.size = K.1 + k.toNat := by omega
    show _ = z_rv K k
    rw [z_rv_pos (by omega), ← e8]
  rw [e9]
  refine kk p e R s m args below meth cd H' locs (cells + (1 + N1 * (1 + N2))) (slots + (N1 + N1 * (N2 + N2 * N3))) ls F h1 h2 (by omega) (by omega) (z_R_multi hR hn z1 o1 fun j hj => ?_) (z_S_news hS z1 o1) hl hg (z_gc (z_gR k) (z_gt (z_gt (z_gt hG))))
  have g8 := g9 j hj
  by_cases e0 : j = 0
  · subst e0
    rw [if_pos rfl] at g8
    have ek : ((n + 1 + 0 : Nat) : Int) = k := by omega
    rw [ek]
    refine z_ref_at hs (by omega) _ _ ?_
    rw [g8]
    refine congrArg some (z_arrV_congr fun i hi => ?_)
    rw [hg1 i hi, z_o_at (by omega) (a := H.size + 0 + 1 + i * (1 + N2)) (by omega)]
  · rw [if_neg e0] at g8
    have hdm := Nat.div_add_mod (j - 1) (1 + N2)
    rw [Nat.mul_comm] at hdm
    have hmod := Nat.mod_lt (j - 1) (show 0 < 1 + N2 by omega)
    have hdiv : (j - 1) / (1 + N2) < N1 := Nat.div_lt_of_lt_mul (by rw [Nat.mul_comm]; omega)
    generalize (j - 1) / (1 + N2) = i at *
    generalize (j - 1) % (1 + N2) = r at *
    by_cases e1 : r = 0
    · subst e1
      rw [if_pos rfl] at g8
      have ek : ((n + 1 + j : Nat) : Int) = k + 1 + ((i * (1 + N2) : Nat) : Int) := by omega
      rw [ek]
      refine z_ref_at (hs2 i hdiv) (by omega) _ _ ?_
      rw [g8]
      refine congrArg some (z_arrV_congr fun w hw => ?_)
      rw [hg2 i w hdiv hw, z_o_at (by omega) (a := H.size + 1 + i * (1 + N2) + 1 + w * 1) (by omega)]
    · rw [if_neg e1] at g8
      have ek : ((n + 1 + j : Nat) : Int) = k + 1 + ((i * (1 + N2) : Nat) : Int) + 1 + ((r - 1 : Nat) : Int) := by omega
      rw [ek]
      refine z_row_at (hs3 i (r - 1) hdiv (by omega)) _ _ ?_
      rw [g8]
      refine congrArg some (z_arrV_congr fun w hw => ?_)
      rw [z_zero32]
end ZQ
