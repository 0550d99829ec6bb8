/-! what the law checks -/
section CHK
variable {nd nl nf ck z k : Nat} {lv fv : Tb} {a b : St}
theorem sumI_nI {g : Nat → Int32} {h : Nat → Nat} : ∀ n, (∀ i, i < n → g i = nI (h i)) → sumI g n = nI (sN h n)
  | 0, _ => rfl
  | n + 1, e => by
    show sumI g n + g n = nI (sN h n + h n)
    rw [sumI_nI n (fun i hi => e i (by omega)), e n (by omega), nI_add]
theorem sN_add {g h : Nat → Nat} : ∀ n, sN (fun i => g i + h i) n = sN g n + sN h n
  | 0 => rfl
  | n + 1 => by
    show sN (fun i => g i + h i) n + (g n + h n) = sN g n + g n + (sN h n + h n)
    rw [sN_add n]
    omega
theorem cntI_nI {s : Nat} : ∀ n, cntI a (nI s) n = nI (cN a s n)
  | 0 => rfl
  | n + 1 => by
    show cntI a (nI s) n + (if a 15 n 3 = nI s then 1 else 0) = nI (cN a s n + (if a 15 n 3 = nI s then 1 else 0))
    rw [cntI_nI n]
    split
    · exact nI_1 _
    · rw [show (0 : Int32) = nI 0 from rfl, nI_add]
theorem m1_le {e : Nat} (h : e < 2 ^ 31) : (-1 : Int32) ≤ nI e := by
  rw [Int32.le_iff_toInt_le, nI_toInt h]
  have : (-1 : Int32).toInt = -1 := by decide
  omega
theorem cB_le (t f : Nat) : cB fv f t ≤ (fv f 5).toNatClampNeg := by
  unfold cB
  split
  · exact Nat.zero_le _
  · exact Nat.min_le_left _ _
theorem Jv.onwt (hT : Tbl nd nl nf lv fv) (h : Jv nd nl nf lv fv ck z a) : onE a nl = nI (cN a 1 (nV a)) ∧ wtE a nd = nI (cN a 0 (nV a)) := by
  obtain ⟨jS, jc, jR, jW, jJ, jV, jC, jF⟩ := h
  constructor
  · rw [← jC.2.2.2.1]
    refine sumI_nI nl fun i hi => ?_
    obtain ⟨m, ti, ro, h1, h2, h3, h4, h5, h6, h7, -⟩ := jR i hi
    rw [h5, nI_clamp (by omega)]
  · rw [← jC.2.2.1]
    refine sumI_nI nd fun i hi => ?_
    obtain ⟨m, h1, h2, -⟩ := jW i hi
    rw [h2, nI_clamp (by omega)]
theorem Jv_chk (hT : Tbl nd nl nf lv fv) (h : Jv nd nl nf lv fv ck z a) (hck : ck ≤ 1001) : Chk nd nl nf lv fv ck a := by
  obtain ⟨eon, ewt⟩ := h.onwt hT
  have hV200 := h.V200
  obtain ⟨jS, jc, jR, jW, jJ, jV, jC, jF⟩ := id h
  obtain ⟨c1, c2, c3, c4, c5, c6, c7, c8⟩ := jC
  refine ⟨⟨jc, jS.1, jS.2.1, jS.2.2.1, jS.2.2.2.2.2⟩, fun k hk => ?_, fun k hk j hj => ?_, fun v hv => ?_, fun f hf => ?_, ?_, ?_, ?_, ?_⟩
  · obtain ⟨m, hm⟩ := jR k hk
    obtain ⟨q, q1, q2, q3, q4⟩ := hm.q (a 0 0 0)
    obtain ⟨ti, ro, h1, h2, h3, h4, h5, h6, h7, h8, h9, h10, h11, h12⟩ := hm
    refine ⟨?_, h5.trans h11.symm, ?_, h12⟩
    · rw [h5, h2]
      exact nI_le h7 (by omega)
    · rw [q3, q4]
      exact nI_le q1 (by omega)
  · obtain ⟨m, ti, ro, h1, h2, h3, h4, h5, h6, h7, h8, h9, h10, h11⟩ := jR k hk
    rw [h5, nI_clamp (by omega)] at hj
    obtain ⟨v, e, f1, f2, f3, f4, f5, f6, f7⟩ := h8 j hj
    refine ⟨v, f1, f2, f5, f4, ?_⟩
    unfold pE
    by_cases hj0 : j = 0
    · rw [if_pos hj0, f6]
      exact m1_le (by omega)
    · rw [if_neg hj0]
      obtain ⟨w, e', g1, g2, g3, g4, g5, g6, g7⟩ := h8 (j - 1) (by omega)
      have := h10 (j - 1) (by omega)
      rw [show j - 1 + 1 = j by omega, f3, g3] at this
      rw [g2, nI_clamp (by omega), g6, f6]
      exact this
  · obtain ⟨s, f, st, g, dr, h1, h2, h3, h4, h5, h6, h7, h8, h9, h10, h11, h12, h13, h14, h15, h16, h17⟩ := jV v hv
    refine ⟨⟨s, h2, h1⟩, fun p hp => ?_, fun h2' => ?_⟩
    · rw [h7, nI_clamp (by omega)] at hp
      obtain ⟨k, k1, k2⟩ := h11 p hp
      obtain ⟨fr, to, ti, ro, e0, e1, e2, e3, e4, e5, e6, e7, e8, e9, e10⟩ := hT.2.2.2.2.1 k k1
      refine ⟨k, k1, k2, ?_, fun hn => ?_⟩
      · rw [e1]
        exact nI_nneg (by have := hT.2.2.1; omega)
      · unfold hrE at hn ⊢
        by_cases hp0 : p = 0
        · rw [if_pos hp0] at hn
          exact absurd (by decide) hn
        · rw [if_neg hp0]
          have := h12 (p - 1) (by omega)
          rw [show p - 1 + 1 = p by omega, k2, nI_clamp (by have := hT.2.1; omega)] at this
          exact this
    · have hs : s = 2 := (nI_eq (b := 2) (by omega) (by decide)).mp (h1.symm.trans h2')
      obtain ⟨tp, t1, t2, t3, t4⟩ := h16 hs
      rw [h7, nI_clamp (by omega), h13, t1, t4]
      exact ⟨nI_le t2 (by omega), (pk_sub t2).symm⟩
  · obtain ⟨cm, ar, gu, x, d, h1, h2, h3, h4, h5, h6, h7, h8, h9, h10, h11⟩ := jF f hf
    obtain ⟨fr, st, pe, mo, k0, k3, k4, k5, k6, k7, k8, k9, k10, k11⟩ := hT.2.2.2.2.2 f hf
    have hmo : cm ≤ mo := by
      refine Nat.le_trans (Nat.le_trans h6 (cB_le _ _)) ?_
      rw [k5, nI_clamp (by omega)]
      exact Nat.le_refl _
    refine ⟨by rw [h1, k5]; exact nI_le hmo (by omega), by rw [h5, h4]; exact nI_le h9 (by omega), fun h0 => h11 ?_⟩
    rw [h2] at h0
    exact (nI_eq (b := 0) (by omega) (by decide)).mp h0
  · rw [ewt]
    exact cntI_nI _
  · rw [eon]
    exact cntI_nI (s := 1) _
  · rw [c1, ← c6]
    refine sumI_nI nf fun f hf => ?_
    obtain ⟨cm, ar, gu, x, d, h1, h2, h3, h4, h5, h6, -⟩ := jF f hf
    obtain ⟨fr, st, pe, mo, k0, k3, k4, k5, k6, k7, k8, k9, k10, k11⟩ := hT.2.2.2.2.2 f hf
    have hmo : cm ≤ mo := by
      refine Nat.le_trans (Nat.le_trans h6 (cB_le _ _)) ?_
      rw [k5, nI_clamp (by omega)]
      exact Nat.le_refl _
    rw [h1, nI_clamp (by omega)]
  · rw [show cntI a 2 (nV a) = nI (cN a 2 (nV a)) from cntI_nI (s := 2) _, show cntI a 3 (nV a) = nI (cN a 3 (nV a)) from cntI_nI (s := 3) _, nI_add, ← c7, ← c8, ← sN_add]
    refine sumI_nI nf fun f hf => ?_
    obtain ⟨cm, ar, gu, x, d, h1, h2, h3, h4, h5, h6, h7, h8, -⟩ := jF f hf
    rw [h2, h3, nI_clamp (by omega), nI_clamp (by omega), nI_add]
end CHK
