/-! a vehicle comes -/
section COME
variable {nd nl nf ck f V s n m : Nat} {lv fv : Tb} {a b : St}
theorem come_end (hT : Tbl nd nl nf lv fv) (h : Jv nd nl nf lv fv ck f a) (hck : ck ≤ 1000) (hf : f < nf) (hVa : nV a = V) (hV : V < 200) (hbr : cB fv f ck + 1 ≤ cB fv f (ck + 1))
    (hs : s = 0 ∨ s = 3) (hn : n < nd) (hm : Wtm a n m) (o15 : ∀ u, u ≠ V → b 15 u = a 15 u) (o16 : ∀ u, u ≠ V → b 16 u = a 16 u) (o30 : b 30 = a 30) (v0 : b 15 V 0 = nI f) (v3 : b 15 V 3 = nI s) (v4 : b 15 V 4 = nI ck) (v7 : b 15 V 7 = 0) (v8 : b 15 V 8 = 0) (vw : b 15 V 2 = 0 → Way nl lv b V)
    (g12 : s = 0 → Grow 12 13 a b n m (nI V) ∧ ∀ i, i ≠ n → b 12 i 0 = a 12 i 0 ∧ b 13 i = a 13 i) (s12 : s = 3 → b 12 = a 12 ∧ b 13 = a 13) (z0 : b 0 0 0 = a 0 0 0) (z2 : b 0 0 2 = a 0 0 2) (z3 : b 0 0 3 = a 0 0 3) (z4 : b 0 0 4 = nI (V + 1)) (z5 : b 0 0 5 = if s = 0 then a 0 0 5 + 1 else a 0 0 5)
    (f6 : b 14 f 6 = a 14 f 6 + 1) (f8 : b 14 f 8 = if s = 3 then a 14 f 8 + 1 else a 14 f 8) (fq : ∀ q, q ≠ 6 → q ≠ 8 → b 14 f q = a 14 f q) (fo : ∀ i, i ≠ f → b 14 i = a 14 i) (eF : ∀ F, F = 1 ∨ F = 2 ∨ F = 3 ∨ F = 4 ∨ F = 5 ∨ F = 6 → b F = a F) : Jv nd nl nf lv fv ck (f + 1) b ∧ Mono a b := by
  obtain ⟨jS, jc, jR, jW, jJ, jV, jC, jF⟩ := h
  obtain ⟨c4, c5, c6, c7, c8, c9, c10, c11⟩ := jC
  rw [hVa] at c4 c5 c6 c7 c8 c9 c10 c11
  have hnf := hT.2.2.2.1
  have hVb : nV b = V + 1 := by show (b 0 0 4).toNatClampNeg = _; rw [z4, nI_clamp (by omega)]
  have b1 := eF 1 (by decide)
  have b2 := eF 2 (by decide)
  have b3 := eF 3 (by decide)
  have b4 := eF 4 (by decide)
  have b5 := eF 5 (by decide)
  have b6 := eF 6 (by decide)
  have hcV : ∀ q, cN b q V = cN a q V := fun q => cN_congr V fun u hu => by rw [o15 u (by omega)]
  have hcb : ∀ q, q < 4 → cN b q (V + 1) = cN a q V + (if s = q then 1 else 0) := fun q hq => by
    show cN b q V + (if b 15 V 3 = nI q then 1 else 0) = _
    rw [hcV, v3]
    have e1 : (nI s = nI q) = (s = q) := propext (nI_eq (by omega) (by omega))
    simp only [e1]
  have hn12 : (a 12 n 0).toNatClampNeg = m := by rw [hm.2.1, nI_clamp (by have := hm.1; omega)]
  have hmV : m ≤ V := by
    have h1 := sN_ge (g := fun i => (a 12 i 0).toNatClampNeg) (k := n) nd hn
    have h2 := cN_le (a := a) (s := 0) V
    omega
  obtain ⟨cm, ar, gu, x, d, y1, y2, y3, y4, y5, y6, y7, y8, y9, y10, y11⟩ := jF f hf
  rw [if_neg (Nat.lt_irrefl f)] at y6
  have hcm : cm ≤ V := by
    have h1 := sN_ge (g := fun i => (a 14 i 6).toNatClampNeg) (k := f) nf hf
    have h2 : (a 14 f 6).toNatClampNeg = cm := by
      rw [y1]
      have h3 : cB fv f ck ≤ 100000 := by
        unfold cB
        split
        · omega
        · obtain ⟨fr, st, pe, mo, -, -, -, k4, -, -, -, -, -, k5⟩ := hT.2.2.2.2.2 f hf
          rw [k4, nI_clamp (by omega)]
          omega
      exact nI_clamp (by omega)
    omega
  have hgu : gu ≤ V := by
    have h1 := sN_ge (g := fun i => (a 14 i 8).toNatClampNeg) (k := f) nf hf
    have h2 : (a 14 f 8).toNatClampNeg = gu := by rw [y3]; exact nI_clamp (by omega)
    have h3 := cN_le (a := a) (s := 3) V
    omega
  have f7 : b 14 f 7 = a 14 f 7 := fq 7 (by decide) (by decide)
  have q7 : ∀ i, b 14 i 7 = a 14 i 7 := fun i => by
    by_cases hif : i = f
    · subst hif
      exact f7
    · rw [fo i hif]
  refine ⟨⟨Stt_same jS (by rw [b1]) z2 z3 (fun i q _ => by rw [b2]) (fun i q hq => ?_), z0.trans jc, fun i hi => ?_, fun i hi => ?_, ?_, fun u hu => ?_, ?_, fun i hi => ?_⟩, by omega, fun u hu h2 => by rw [o15 u (by omega)]; exact h2⟩
  · by_cases hif : i = f
    · subst hif
      exact fq q (by omega) (by omega)
    · rw [fo i hif]
  · obtain ⟨mi, hi2⟩ := jR i hi
    exact ⟨mi, Rw_same hi2 (Nat.le_refl _) (by omega) (by rw [b3]) (by rw [b4]) (by rw [b5]) (by rw [b6]) (by rw [b2]) (by rw [b2]; exact id) fun u hu h1 h5 => by rw [o15 u (by omega)]; exact ⟨h1, h5, rfl⟩⟩
  · obtain ⟨mi, hi2⟩ := jW i hi
    have hst : ∀ j u, j < mi → u < nV a → a 13 i j = nI u → a 15 u 3 = 0 → b 15 u 3 = 0 := by
      intro j u hj hu hju h3
      rw [o15 u (by omega)]
      exact h3
    rcases hs with rfl | rfl
    · obtain ⟨g1, g2⟩ := g12 rfl
      by_cases hin : i = n
      · subst hin
        refine ⟨m + 1, by omega, g1.1, fun j hj => ?_⟩
        by_cases hjm : j = m
        · subst hjm
          exact ⟨V, by omega, g1.2.2, v3⟩
        · obtain ⟨u, k1, k2, k3⟩ := hm.2.2 j (by omega)
          exact ⟨u, by omega, by rw [g1.2.1 j (by omega)]; exact k2, by rw [o15 u (by omega)]; exact k3⟩
      · exact ⟨mi, Wt_same hi2 (by omega) (g2 i hin).1 (g2 i hin).2 hst⟩
    · obtain ⟨g1, g2⟩ := s12 rfl
      exact ⟨mi, Wt_same hi2 (by omega) (by rw [g1]) (by rw [g2]) hst⟩
  · rcases hs with rfl | rfl
    · obtain ⟨g1, g2⟩ := g12 rfl
      exact WtJ_grow jW jJ hm.2.1 hm.1 hn (by omega) (by omega) g1 g2
    · obtain ⟨g1, g2⟩ := s12 rfl
      exact WtJ_same jJ fun i _ => by rw [g1, g2]; exact ⟨rfl, rfl⟩
  · by_cases huV : u = V
    · subst huV
      refine ⟨s, f, ck, 0, 0, v3, by omega, v0, hf, v4, Nat.le_refl _, v7, v8, Nat.le_refl _, by omega, fun p hp => by omega, fun p hp => by omega, rfl, fun _ => rfl, fun h => by omega, fun h => by omega, fun hz => ?_⟩
      obtain ⟨w, w1, w2, w3, w4⟩ := vw hz
      exact ⟨w, w1, w2, w3, w4, fun h => by omega⟩
    · exact Veh_same (jV u (by omega)) (Nat.le_refl _) (o15 u huV) (o16 u huV) (by rw [o30])
  · have s3 : sN (fun i => (b 3 i 0).toNatClampNeg) nl = cN a 1 V := by rw [b3]; exact c7
    have s7 : sN (fun i => (b 14 i 7).toNatClampNeg) nf = cN a 2 V := by rw [← c10]; exact sN_congr nf fun i _ => by show (b 14 i 7).toNatClampNeg = _; rw [q7 i]
    have s6 := sN_inc (g := fun i => (a 14 i 6).toNatClampNeg) (h := fun i => (b 14 i 6).toNatClampNeg) nf hf (fun i _ hi => by show (b 14 i 6).toNatClampNeg = _; rw [fo i hi])
    have s8 := sN_inc (g := fun i => (a 14 i 8).toNatClampNeg) (h := fun i => (b 14 i 8).toNatClampNeg) nf hf (fun i _ hi => by show (b 14 i 8).toNatClampNeg = _; rw [fo i hi])
    have e6 : (a 14 f 6).toNatClampNeg = cm := by rw [y1, nI_clamp (by omega)]
    have e6b : (b 14 f 6).toNatClampNeg = cm + 1 := by rw [f6, y1, nI_1, nI_clamp (by omega)]
    have e8 : (a 14 f 8).toNatClampNeg = gu := by rw [y3, nI_clamp (by omega)]
    unfold Cnt
    rw [hVb, hcb 0 (by decide), hcb 1 (by decide), hcb 2 (by decide), hcb 3 (by decide)]
    rcases hs with rfl | rfl
    · obtain ⟨g1, g2⟩ := g12 rfl
      have s12 := sN_inc (g := fun i => (a 12 i 0).toNatClampNeg) (h := fun i => (b 12 i 0).toNatClampNeg) nd hn (fun i _ hi => by show (b 12 i 0).toNatClampNeg = _; rw [(g2 i hi).1])
      have e12 : (b 12 n 0).toNatClampNeg = m + 1 := by rw [g1.1, nI_clamp (by omega)]
      have e8b : (b 14 f 8).toNatClampNeg = gu := by rw [f8, if_neg (by decide), y3, nI_clamp (by omega)]
      simp only [if_true, if_neg (show ¬ (0 = 1) by decide), if_neg (show ¬ (0 = 2) by decide), if_neg (show ¬ (0 = 3) by decide)] at z5 ⊢
      exact ⟨z4, by omega, by omega, by omega, by rw [z5, c8, nI_1]; congr 1; omega, by omega, by omega, by omega⟩
    · obtain ⟨g1, g2⟩ := s12 rfl
      have e8b : (b 14 f 8).toNatClampNeg = gu + 1 := by rw [f8, if_pos rfl, y3, nI_1, nI_clamp (by omega)]
      simp only [if_true, if_neg (show ¬ (3 = 0) by decide), if_neg (show ¬ (3 = 1) by decide), if_neg (show ¬ (3 = 2) by decide)] at z5 ⊢
      rw [g1]
      exact ⟨z4, by omega, by omega, by omega, by rw [z5, c8]; congr 1, by omega, by omega, by omega⟩
  · by_cases hif : i = f
    · subst hif
      rw [if_pos (Nat.lt_succ_self i)]
      refine ⟨cm + 1, ar, (if s = 3 then gu + 1 else gu), x, d, by rw [f6, y1, nI_1], by rw [f7]; exact y2, ?_, by rw [fq 9 (by decide) (by decide)]; exact y4, by rw [fq 10 (by decide) (by decide)]; exact y5, by omega, y7, by split <;> omega, y9, y10, fun h0 => by rw [fq 11 (by decide) (by decide)]; exact y11 h0⟩
      rw [f8]
      split
      · rw [y3, nI_1]
      · exact y3
    · have e9 : (if i < f + 1 then ck + 1 else ck) = if i < f then ck + 1 else ck := by
        by_cases h1 : i < f
        · rw [if_pos h1, if_pos (by omega)]
        · rw [if_neg h1, if_neg (by omega)]
      rw [e9]
      exact Flw_same (jF i hi) (Nat.le_refl _) fun q _ => by rw [fo i hif]
end COME
