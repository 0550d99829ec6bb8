/-! what a tick's loops need -/
theorem in_nat {i n : Nat} (h : i ≤ n) (hn : n < 1000000) : in_ (nI i) n := by
  have h1 := nI_toInt (n := i) (by omega)
  exact ⟨by omega, by omega⟩
theorem itN_up {g : Nat → St → St} {M k N : Nat} {a : St} (h : Wf M a) (hs : ∀ (i K : Nat) (b : St), i < N → K ≤ M + k * i → Wf K b → Wf (K + k) (g i b)) : ∀ n, n ≤ N → Wf (M + k * n) (itN g n a)
  | 0, _ => h
  | n + 1, hn => by
    have h1 := hs n (M + k * n) _ (by omega) (Nat.le_refl _) (itN_up h hs n (by omega))
    rw [Nat.mul_succ, ← Nat.add_assoc]
    exact h1
theorem T_nodes_Wf {M : Nat} {a : St} (h : Wf M a) (hM : M < 800000) : Wf (M + 12) (T_nodes a) := (itN_up (k := 1) (N := nN a) h (fun i K b hi hK hb => T_node_Wf (Nat.lt_of_lt_of_le hi (in_le h.1.2.1)) (by have : nN a ≤ 12 := in_le h.1.2.1; omega) hb) _ (Nat.le_refl _)).mono (by have : nN a ≤ 12 := in_le h.1.2.1; omega)
theorem T_comes_off {a : St} {v : Nat} {vn nx : Int32} {g j : Nat} (h2 : g ≠ 2) (h3 : g ≠ 3) (h4 : g ≠ 4) (h5 : g ≠ 5) (h6 : g ≠ 6) (h15 : g ≠ 15) (h30 : g ≠ 30) : (T_comes a v vn nx).1 g j = a g j := by
  unfold T_comes
  split
  · rfl
  · split
    · rfl
    · exact T_onto_off h2 h3 h4 h5 h6 h15 h30
theorem T_node_off {a : St} {n g j : Nat} (h2 : g ≠ 2) (h3 : g ≠ 3) (h4 : g ≠ 4) (h5 : g ≠ 5) (h6 : g ≠ 6) (h12 : g ≠ 12) (h13 : g ≠ 13) (h15 : g ≠ 15) (h30 : g ≠ 30) : T_node n a g j = a g j := by
  unfold T_node T_nodeV
  split
  · rfl
  · split
    · exact T_comes_off h2 h3 h4 h5 h6 h15 h30
    · rw [R_drop_off h12 h13, T_comes_off h2 h3 h4 h5 h6 h15 h30]
theorem fmod_in {x y : Int32} {N : Nat} (hx : 0 ≤ x.toInt) (hy : y = nI N) (h0 : 0 < N) (hN : N ≤ 24) : ∃ f, f < N ∧ fmod x y = nI f := by
  subst hy
  have hx2 := m_n0 hx
  have hb : x.toNatClampNeg < 2 ^ 31 := by
    have := m_tn hx
    have := x.toInt_lt
    omega
  generalize x.toNatClampNeg = c at hx2 hb
  subst hx2
  have e : nI c - nI c / nI N * nI N = nI (c % N) := pk_rem hb h0 (by omega)
  refine ⟨c % N, Nat.mod_lt _ h0, ?_⟩
  unfold fmod
  rw [e]
  split
  · rfl
  · rename_i h9
    refine absurd ?_ h9
    have h1 : nI c ^^^ nI N = nI (c ^^^ N) := by
      apply Int32.toBitVec_inj.1
      show BitVec.ofNat 32 c ^^^ BitVec.ofNat 32 N = BitVec.ofNat 32 (c ^^^ N)
      apply BitVec.eq_of_getLsbD_eq
      intro i hi
      simp [hi]
    rw [h1]
    exact nI_pos' (Nat.xor_lt_two_pow hb (by omega))
theorem lnum_in {f N i : Nat} (hf : f < N) (hi : i < N) (hN : N ≤ 24) : ∃ r, T_lnum (nI f) (nI N) i = nI r ∧ r < N := by
  unfold T_lnum
  rw [nI_add]
  by_cases h : N ≤ f + i
  · rw [if_pos (nI_le h (by omega)), pk_sub h]
    exact ⟨_, rfl, by omega⟩
  · rw [if_neg (nI_ge (by omega) (by omega))]
    exact ⟨_, rfl, by omega⟩
theorem T_many_Wf {l : Nat} (hl : l < 24) : ∀ (d M : Nat) (a : St), M + d < 900000 → Wf M a → Wf (M + d) (T_many l d a)
  | 0, _, _, _, h => h
  | d + 1, M, a, hM, h => by
    have h1 := T_first_Wf hl (by omega) h
    unfold T_many
    split
    · exact h1.mono (by omega)
    · have h2 := T_many_Wf hl d (M + 1) _ (by omega) h1
      rw [show M + (d + 1) = M + 1 + d by omega]
      exact h2
theorem T_most_3 {M : Nat} {a : St} {l : Nat} (hl : l < 24) (h : Wf M a) : (T_most a l).toNatClampNeg ≤ 3 := by
  have h1 := (h.2.1 l hl).2.2.2.1
  unfold T_most
  split
  · exact Nat.zero_le _
  · show (a 2 l 5).toInt.toNat ≤ 3
    omega
theorem T_link_Wf {f n : Int32} {i : Nat} {K : Nat} {b : St} (hl : (T_lnum f n i).toNatClampNeg < 24) (hK : K < 800000) (h : Wf K b) : Wf (K + 3) (T_link f n i b) := by
  have h3 := T_most_3 hl h
  exact (T_many_Wf hl _ K b (by omega) h).mono (by omega)
theorem T_first_1 {a : St} {l j : Nat} : (T_first a l).1 1 j = a 1 j := by
  have ar : ∀ v, T_arrive a v 1 j = a 1 j := fun v => by
    unfold T_arrive T_arr2 T_arr1
    split
    · rw [S2_nf (by decide)]
      exact S2_nf (by decide)
    · split
      · rw [S2_nf (by decide)]
        exact S2_nf (by decide)
      · unfold F_trip
        rw [S2_nf (by decide), S2_nf (by decide)]
        exact S2_nf (by decide)
  unfold T_first T_firstV
  split
  · rfl
  · split
    · rfl
    · split
      · dsimp only
        rw [L_go_off (by decide) (by decide) (by decide) (by decide) (by decide), ar]
      · split
        · exact T_comes_off (by decide) (by decide) (by decide) (by decide) (by decide) (by decide) (by decide)
        · dsimp only
          rw [L_go_off (by decide) (by decide) (by decide) (by decide) (by decide), L_turn_off (by decide)]
          exact T_comes_off (by decide) (by decide) (by decide) (by decide) (by decide) (by decide) (by decide)
theorem T_many_1 {l j : Nat} : ∀ (d : Nat) (a : St), T_many l d a 1 j = a 1 j
  | 0, _ => rfl
  | d + 1, a => by
    unfold T_many
    split
    · exact T_first_1
    · rw [T_many_1 d, T_first_1]
theorem m_leN {x : Int32} {k : Nat} (h : x.toNatClampNeg ≤ k) (hk : k < 1000000) : x ≤ nI k := by
  rw [Int32.le_iff_toInt_le, nI_toInt (by omega)]
  have h1 : x.toInt.toNat ≤ k := h
  omega
theorem m_ltN {x : Int32} {k : Nat} (h : k < x.toNatClampNeg) (hk : k < 1000000) : ¬ x ≤ nI k := by
  rw [Int32.le_iff_toInt_le, nI_toInt (by omega)]
  have h1 : k < x.toInt.toNat := h
  omega
theorem T_links_Wf {M : Nat} {a : St} (h : Wf M a) (hM : M < 700000) (hc : 0 ≤ (a 0 0 0).toInt) : Wf (M + 72) (T_links a) := by
  unfold T_links
  split
  · rename_i h1
    have hn : nL a ≤ 24 := in_le h.1.1
    have h0 : 0 < nL a := by
      have h2 : (1 : Int32).toInt ≤ (a 1 0 0).toInt := Int32.le_iff_toInt_le.mp h1
      have h3 : ((nL a : Nat) : Int) = (a 1 0 0).toInt := m_tn h.1.1.1
      have h4 : (1 : Int32).toInt = 1 := rfl
      omega
    obtain ⟨f, hf, ef⟩ := fmod_in (N := nL a) hc (in_nI h.1.1) h0 hn
    refine (itN_up (k := 3) (N := nL a) h (fun i K b hi hK hb => T_link_Wf ?_ (by omega) hb) _ (Nat.le_refl _)).mono (by omega)
    obtain ⟨r, e, hr⟩ := lnum_in hf hi hn
    rw [ef, in_nI h.1.1, e, nI_clamp (by omega)]
    omega
  · exact h.mono (by omega)
theorem m_tot {p i n : Nat} (h : i ≤ n) : p * i ≤ n * p := by
  rw [Nat.mul_comm]
  exact Nat.mul_le_mul_right _ h
theorem m_tot3 {p i : Nat} (h : i ≤ 3) : p * i ≤ 3 * p := m_tot h
theorem m_tot72 {p i : Nat} (h : i ≤ 24) : 3 * p * i ≤ 72 * p := by
  have h1 : 3 * p * i ≤ 24 * (3 * p) := m_tot h
  have h2 : 24 * (3 * p) = 72 * p := by rw [← Nat.mul_assoc]
  omega
/-- a contract by its body, for a method of a class in which others, not it, are run by the machine itself -/
theorem m_ofWF {l : Launch} {y : MethodName} {ws ws' : List Cond} {rm : Room} {Pc : Array Value → State → Prop} {Qc : Array Value → State → Outcome → State → Prop} {mc ms : Nat} {free : Addr → Prop} {cc : ByteArray} {maxL : Nat} {ret : Option FieldType} (hy : plainFor y = true) (hw : ws = Cond.code y cc maxL ret :: ws')
    (body : ∀ p e s m args below meth c s₁, BodyLoose p l y (headSpec ws rm) cc maxL ret e s m args below meth c s₁ → c.maxLocals = maxL → Pc args s → W p l e (headSpec ws rm).room s m args below meth c s.heap [] 0 0 (MQ below Qc args s mc ms free) (entryFrame m args maxL)) : Met l y ws rm Pc Qc mc ms free := by
  refine MetFree.of_bodySF (code := cc) (maxLocals := maxL) (ret := ret) hy (fun args s m h hn => ?_) (fun p e s m args below meth c s₁ B hml hP _ => ?_)
  · obtain ⟨meth, c, h1, h2, h3, h4, h5, h6, -, -⟩ := Cond.code_spec hn (atoms_spec (ws := ws) h _ (by rw [hw]; exact List.mem_cons_self))
    exact ⟨meth, c, h1, h2, h3, h4, h5, h6⟩
  · obtain ⟨t, a1, o, b1, b2, b3, b4⟩ := body p e s m args below meth c s₁ B hml hP s₁ (by rw [B.state]; rfl) (Stand.of_body B)
    exact ⟨t, o, a1, b1, b2, b3, b4⟩
theorem L2_sameT {a : St} {i : Nat} {x : Nat → Int32} : sameT a (S2 a 2 i x) := sameT.off (by decide) (by decide) (by decide)
theorem G_slow_sameT {a : St} : sameT a (G_slow a) := itN_keep (P := fun b => sameT a b) (sameT.refl a) (fun _ _ h => h.trans L2_sameT) _
theorem G_reck_sameT {a : St} {tk : Int32} : sameT a (G_reck a tk) := itN_keep (P := fun b => sameT a b) (sameT.refl a) (fun _ _ h => h.trans L2_sameT) _
theorem G_cq_sameT {a : St} {tk : Int32} : sameT a (G_cq a tk) := itN_keep (P := fun b => sameT a b) (sameT.refl a) (fun _ _ h => h.trans L2_sameT) _
