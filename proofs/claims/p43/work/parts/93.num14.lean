/-! a trial and the thing itself go alike -/
section SIM
variable {a b a' b' : St} {i v C f g : Nat}
def RowS (f g C : Nat) (b a : St) (i : Nat) : Prop := (∃ m, m ≤ C ∧ a f i 0 = nI m) ∧ b f i 0 = a f i 0 ∧ ∀ j, j < (a f i 0).toNatClampNeg → b g i j = a g i j
def SigS (b a : St) (i : Nat) : Prop := in_ (a 8 i 0) 4 ∧ (∀ k, k < 3 → b 8 i k = a 8 i k) ∧ ∀ j, j < 4 → b 9 i j = a 9 i j ∧ b 10 i j = a 10 i j ∧ b 11 i j = a 11 i j
def VehS (b a : St) (v : Nat) : Prop := (∃ w, w ≤ 11 ∧ a 15 v 11 = nI w) ∧ (∀ k, k < 12 → b 15 v k = a 15 v k) ∧ ∀ j, j < (a 15 v 11).toNatClampNeg → b 16 v j = a 16 v j
def Sim (b a : St) : Prop := (∀ k, k < 6 → b 0 0 k = a 0 0 k) ∧ (∃ V, V ≤ 200 ∧ a 0 0 4 = nI V) ∧ b 1 0 0 = a 1 0 0 ∧ (∀ i, i < nL a → (a 2 i 1).toNatClampNeg < nN a ∧ ∀ k, k < 9 → b 2 i k = a 2 i k) ∧ (∀ i, i < nL a → RowS 3 4 30 b a i) ∧ (∀ i, i < nL a → RowS 5 6 30 b a i) ∧ (∀ i, i < nN a → SigS b a i) ∧ (∀ i, i < nN a → RowS 12 13 200 b a i) ∧ (∀ i, i < nFl a → (a 14 i 0).toNatClampNeg < nN a ∧ ∀ k, k < 6 → b 14 i k = a 14 i k) ∧ ∀ i, i < nV a → VehS b a i
theorem Sim.z (h : Sim b a) {k : Nat} (hk : k < 6) : b 0 0 k = a 0 0 k := h.1 k hk
theorem Sim.zV (h : Sim b a) : ∃ V, V ≤ 200 ∧ a 0 0 4 = nI V := h.2.1
theorem Sim.n (h : Sim b a) : b 1 0 0 = a 1 0 0 := h.2.2.1
theorem Sim.l (h : Sim b a) (hi : i < nL a) {k : Nat} (hk : k < 9) : b 2 i k = a 2 i k := (h.2.2.2.1 i hi).2 k hk
theorem Sim.l1 (h : Sim b a) (hi : i < nL a) : (a 2 i 1).toNatClampNeg < nN a := (h.2.2.2.1 i hi).1
theorem Sim.r3 (h : Sim b a) (hi : i < nL a) : RowS 3 4 30 b a i := h.2.2.2.2.1 i hi
theorem Sim.r5 (h : Sim b a) (hi : i < nL a) : RowS 5 6 30 b a i := h.2.2.2.2.2.1 i hi
theorem Sim.s (h : Sim b a) (hi : i < nN a) : SigS b a i := h.2.2.2.2.2.2.1 i hi
theorem Sim.w (h : Sim b a) (hi : i < nN a) : RowS 12 13 200 b a i := h.2.2.2.2.2.2.2.1 i hi
theorem Sim.fl (h : Sim b a) (hi : i < nFl a) {k : Nat} (hk : k < 6) : b 14 i k = a 14 i k := (h.2.2.2.2.2.2.2.2.1 i hi).2 k hk
theorem Sim.f0 (h : Sim b a) (hi : i < nFl a) : (a 14 i 0).toNatClampNeg < nN a := (h.2.2.2.2.2.2.2.2.1 i hi).1
theorem Sim.ve (h : Sim b a) (hi : i < nV a) : VehS b a i := h.2.2.2.2.2.2.2.2.2 i hi
theorem Sim.eL (h : Sim b a) : nL b = nL a := by show (b 1 0 0).toNatClampNeg = _; rw [h.n]
theorem Sim.eN (h : Sim b a) : nN b = nN a := by show (b 0 0 2).toNatClampNeg = _; rw [h.z (by decide)]
theorem Sim.eF (h : Sim b a) : nFl b = nFl a := by show (b 0 0 3).toNatClampNeg = _; rw [h.z (by decide)]
theorem Sim.eV (h : Sim b a) : nV b = nV a := by show (b 0 0 4).toNatClampNeg = _; rw [h.z (by decide)]
theorem Sim.gen {C : Nat → Prop} (h : Sim b a) (eb : ∀ F, ¬ C F → b' F = b F) (ea : ∀ F, ¬ C F → a' F = a F) (c0 : ¬ C 0) (c1 : ¬ C 1) (hl : C 2 → ∀ i, i < nL a → (a' 2 i 1).toNatClampNeg < nN a ∧ ∀ k, k < 9 → b' 2 i k = a' 2 i k) (hr3 : C 3 ∨ C 4 → ∀ i, i < nL a → RowS 3 4 30 b' a' i) (hr5 : C 5 ∨ C 6 → ∀ i, i < nL a → RowS 5 6 30 b' a' i) (hs : C 8 ∨ C 9 ∨ C 10 ∨ C 11 → ∀ i, i < nN a → SigS b' a' i) (hw : C 12 ∨ C 13 → ∀ i, i < nN a → RowS 12 13 200 b' a' i) (hf : C 14 → ∀ i, i < nFl a → (a' 14 i 0).toNatClampNeg < nN a ∧ ∀ k, k < 6 → b' 14 i k = a' 14 i k) (hv : C 15 ∨ C 16 → ∀ i, i < nV a → VehS b' a' i) : Sim b' a' := by
  obtain ⟨z, zV, n, l, r3, r5, s, w, f, v⟩ := h
  have a0 := ea 0 c0
  have b0 := eb 0 c0
  have a1 := ea 1 c1
  have b1 := eb 1 c1
  have eL : nL a' = nL a := by show (a' 1 0 0).toNatClampNeg = _; rw [a1]
  have eN : nN a' = nN a := by show (a' 0 0 2).toNatClampNeg = _; rw [a0]
  have eF : nFl a' = nFl a := by show (a' 0 0 3).toNatClampNeg = _; rw [a0]
  have eV : nV a' = nV a := by show (a' 0 0 4).toNatClampNeg = _; rw [a0]
  unfold Sim
  rw [eL, eN, eF, eV]
  refine ⟨by rw [a0, b0]; exact z, by rw [a0]; exact zV, by rw [a1, b1]; exact n, fun i hi => ?_, fun i hi => ?_, fun i hi => ?_, fun i hi => ?_, fun i hi => ?_, fun i hi => ?_, fun i hi => ?_⟩
  · by_cases c : C 2
    · exact hl c i hi
    · rw [ea 2 c, eb 2 c]
      exact l i hi
  · by_cases c : C 3 ∨ C 4
    · exact hr3 c i hi
    · unfold RowS
      rw [ea 3 (fun x => c (Or.inl x)), eb 3 (fun x => c (Or.inl x)), ea 4 (fun x => c (Or.inr x)), eb 4 (fun x => c (Or.inr x))]
      exact r3 i hi
  · by_cases c : C 5 ∨ C 6
    · exact hr5 c i hi
    · unfold RowS
      rw [ea 5 (fun x => c (Or.inl x)), eb 5 (fun x => c (Or.inl x)), ea 6 (fun x => c (Or.inr x)), eb 6 (fun x => c (Or.inr x))]
      exact r5 i hi
  · by_cases c : C 8 ∨ C 9 ∨ C 10 ∨ C 11
    · exact hs c i hi
    · unfold SigS
      rw [ea 8 (fun x => c (Or.inl x)), eb 8 (fun x => c (Or.inl x)), ea 9 (fun x => c (Or.inr (Or.inl x))), eb 9 (fun x => c (Or.inr (Or.inl x))), ea 10 (fun x => c (Or.inr (Or.inr (Or.inl x)))), eb 10 (fun x => c (Or.inr (Or.inr (Or.inl x)))), ea 11 (fun x => c (Or.inr (Or.inr (Or.inr x)))), eb 11 (fun x => c (Or.inr (Or.inr (Or.inr x))))]
      exact s i hi
  · by_cases c : C 12 ∨ C 13
    · exact hw c i hi
    · unfold RowS
      rw [ea 12 (fun x => c (Or.inl x)), eb 12 (fun x => c (Or.inl x)), ea 13 (fun x => c (Or.inr x)), eb 13 (fun x => c (Or.inr x))]
      exact w i hi
  · by_cases c : C 14
    · exact hf c i hi
    · rw [ea 14 c, eb 14 c]
      exact f i hi
  · by_cases c : C 15 ∨ C 16
    · exact hv c i hi
    · unfold VehS
      rw [ea 15 (fun x => c (Or.inl x)), eb 15 (fun x => c (Or.inl x)), ea 16 (fun x => c (Or.inr x)), eb 16 (fun x => c (Or.inr x))]
      exact v i hi
theorem RowS.app {c x : Int32} (h : RowS f g C b a i) (hfg : f ≠ g) (hc : c = nI C) (hC : C < 1000) : RowS f g C (R_app f g c b i x) (R_app f g c a i x) i := by
  obtain ⟨⟨m, hm, h0⟩, h1, h2⟩ := h
  unfold R_app
  rw [h1]
  by_cases hcc : c ≤ a f i 0
  · rw [if_pos hcc, if_pos hcc]
    exact ⟨⟨m, hm, h0⟩, h1, h2⟩
  · rw [if_neg hcc, if_neg hcc]
    have hmC : m < C := Nat.lt_of_not_le fun h9 => hcc (by rw [hc, h0]; exact nI_le h9 (by omega))
    unfold RowS
    rw [S2_eq, S2_eq, upd_eq, upd_eq, S2_nf hfg.symm, S2_nf hfg.symm, S2_eq, S2_eq, h0, nI_1, nI_clamp (by omega), nI_clamp (by omega)]
    refine ⟨⟨m + 1, by omega, rfl⟩, rfl, fun j hj => ?_⟩
    by_cases hjm : j = m
    · rw [hjm, upd_eq, upd_eq]
    · rw [upd_ne hjm, upd_ne hjm]
      exact h2 j (by rw [h0, nI_clamp (by omega)]; omega)
theorem RowS.drop (h : RowS f g C b a i) (hfg : f ≠ g) (hC : C < 1000) : RowS f g C (R_drop f g b i) (R_drop f g a i) i := by
  obtain ⟨⟨m, hm, h0⟩, h1, h2⟩ := h
  unfold R_drop
  rw [h1]
  by_cases hcc : a f i 0 ≤ 0
  · rw [if_pos hcc, if_pos hcc]
    exact ⟨⟨m, hm, h0⟩, h1, h2⟩
  · rw [if_neg hcc, if_neg hcc]
    have hmC : 1 ≤ m := Nat.lt_of_not_le fun h9 => hcc (by rw [h0]; exact nI_le (b := 0) h9 (by omega))
    unfold RowS
    rw [S2_nf hfg, S2_nf hfg, S2_eq, S2_eq, S2_eq, S2_eq, upd_eq, upd_eq, h0, show (1 : Int32) = nI 1 from rfl, pk_sub hmC, nI_clamp (by omega)]
    refine ⟨⟨m - 1, by omega, rfl⟩, rfl, fun j hj => ?_⟩
    rw [pk_cpy_in (Nat.zero_le _) (by omega), pk_cpy_in (Nat.zero_le _) (by omega)]
    exact h2 _ (by rw [h0, nI_clamp (by omega)]; omega)
theorem RowS.get0 (h : RowS f g C b a i) (hC : C < 1000) : R_get (b f i 0) (b g i) 0 = R_get (a f i 0) (a g i) 0 := by
  obtain ⟨⟨m, hm, h0⟩, h1, h2⟩ := h
  unfold R_get
  rw [h1, if_neg (show ¬ (0 : Int32) < 0 by decide), if_neg (show ¬ (0 : Int32) < 0 by decide)]
  by_cases hcc : a f i 0 ≤ 0
  · rw [if_pos hcc, if_pos hcc]
  · rw [if_neg hcc, if_neg hcc]
    have hmC : 1 ≤ m := Nat.lt_of_not_le fun h9 => hcc (by rw [h0]; exact nI_le (b := 0) h9 (by omega))
    exact h2 0 (by rw [h0, nI_clamp (by omega)]; omega)
theorem Q_congr {g h : Nat → Int32} {t : Int32} : ∀ d k, (∀ j, k ≤ j → j < k + d → g j = h j) → Q_in g t d k = Q_in h t d k
  | 0, _, _ => rfl
  | d + 1, k, e => by
    show (if t < g k then k else Q_in g t d (k + 1)) = if t < h k then k else Q_in h t d (k + 1)
    rw [e k (by omega) (by omega), Q_congr d (k + 1) (fun j h1 h2 => e j (by omega) (by omega))]
theorem Sim.q (h : Sim b a) (hi : i < nL a) (t : Int32) : L_q b i t = L_q a i t := by
  obtain ⟨-, h1, h2⟩ := h.r5 hi
  unfold L_q
  rw [h1, Q_congr _ 0 (fun j _ hj => h2 j (by omega))]
theorem Sim.cost (h : Sim b a) (hi : i < nL a) (t : Int32) : L_cost b i t = L_cost a i t := by
  unfold L_cost
  rw [h.q hi, h.l hi (show 2 < 9 by decide), h.l hi (show 5 < 9 by decide)]
theorem Sim.has (h : Sim b a) (hi : i < nL a) (t : Int32) : L_has b i t = L_has a i t := by
  unfold L_has
  rw [(h.r5 hi).get0 (by decide), (h.r5 hi).2.1]
theorem Sim.opn (h : Sim b a) (hi : i < nL a) : L_open b i = L_open a i := by
  unfold L_open
  rw [h.l hi (show 7 < 9 by decide), h.l hi (show 3 < 9 by decide), (h.r3 hi).2.1]
theorem Sim.any (h : Sim b a) {t x : Int32} : ∀ d i, i + d ≤ nL a → G_any b t x d i = G_any a t x d i
  | 0, _, _ => rfl
  | d + 1, i, hi => by
    show (if _ then (if _ then _ else _) else _) = if _ then (if _ then _ else _) else _
    rw [h.has (i := i) (by omega), h.any d (i + 1) (by omega)]
theorem Sim.b1 (h : Sim b a) (hi : i < nL a) (z : (Nat → Int32) × Int32) : B_one b i z = B_one a i z := by
  unfold B_one
  rw [h.l hi (show 7 < 9 by decide), h.l hi (show 0 < 9 by decide), h.l hi (show 1 < 9 by decide), h.l hi (show 8 < 9 by decide)]
theorem Sim.bin (h : Sim b a) : ∀ n, n ≤ nL a → ∀ z, B_in b n z = B_in a n z
  | 0, _, _ => rfl
  | n + 1, hn, z => by
    show B_one b n (B_in b n z) = B_one a n (B_in a n z)
    rw [h.bin n (by omega), h.b1 (by omega)]
theorem Sim.bout (h : Sim b a) : ∀ (d : Nat) (g : Nat → Int32), B_out b d g = B_out a d g
  | 0, _ => rfl
  | d + 1, g => by
    show (if _ then _ else _) = if _ then _ else _
    rw [h.eL, h.bin (nL a) (Nat.le_refl _), h.bout d]
theorem Sim.bf (h : Sim b a) (to : Nat) : bf b to = bf a to := h.bout 12 _
theorem Sim.scan (h : Sim b a) {g : Nat → Int32} {fr : Int32} : ∀ d i, i + d ≤ nL a → G_scan b g fr d i = G_scan a g fr d i
  | 0, _, _ => rfl
  | d + 1, i, hi => by
    show (if _ then (if _ then (if _ then _ else if _ then _ else _) else _) else _) = if _ then (if _ then (if _ then _ else if _ then _ else _) else _) else _
    rw [h.l (i := i) (by omega) (show 7 < 9 by decide), h.l (i := i) (by omega) (show 0 < 9 by decide), h.l (i := i) (by omega) (show 1 < 9 by decide), h.l (i := i) (by omega) (show 8 < 9 by decide), h.scan d (i + 1) (by omega)]
theorem Sim.first (h : Sim b a) (fr to : Int32) : G_first b fr to = G_first a fr to := by
  unfold G_first
  rw [h.bf, h.eL, h.scan (nL a) 0 (by omega)]
theorem Sim.green (h : Sim b a) (hi : i < nN a) (k : Int32) : S_green b i k = S_green a i k ∧ S_links b i = S_links a i := by
  obtain ⟨h0, h1, h2⟩ := h.s hi
  have e : S_links b i = S_links a i := by
    unfold S_links
    have eo : S_on (b 8 i) = S_on (a 8 i) := by
      unfold S_on
      rw [h1 0 (by decide), h1 1 (by decide)]
    rw [eo]
    by_cases ho : S_on (a 8 i) = 0
    · rw [if_pos ho, if_pos ho]
    · rw [if_neg ho, if_neg ho, h1 1 (by decide)]
      obtain ⟨o1, o2⟩ := S_on_in ho
      refine (h2 _ ?_).1
      have h3 := h0.2
      have o3 : 0 ≤ (a 8 i 1).toInt := by rw [Int32.lt_iff_toInt_lt] at o1; simpa using o1
      have o4 : (a 8 i 1).toInt < (a 8 i 0).toInt := by rw [Int32.le_iff_toInt_le] at o2; omega
      have := m_tn o3
      omega
  refine ⟨?_, e⟩
  unfold S_green
  rw [e, h1 0 (by decide)]
end SIM
