/-! links and nodes within a tick; what the rest of a tick leaves alone -/
section DRIVE
variable {nd nl nf ck z l n : Nat} {lv fv : Tb} {a b : St}
theorem Jv.V200 (h : Jv nd nl nf lv fv ck z a) : nV a ≤ 200 := h.2.2.2.2.2.2.1.2.1
theorem Jv.V4 (h : Jv nd nl nf lv fv ck z a) : a 0 0 4 = nI (nV a) := h.2.2.2.2.2.2.1.1
theorem not_no {v : Nat} (h : ¬ T_no a (nI v)) (h4 : a 0 0 4 = nI (nV a)) (hV : nV a ≤ 200) (hv : v < 1000) : v < nV a := by
  apply Classical.byContradiction
  intro hc
  exact h (Or.inr (by rw [h4]; exact nI_le (by omega) (by omega)))
theorem comes_cases {v k : Nat} {vn : Int32} (hn : a 1 0 0 = nI nl) (hnl : nl ≤ 24) {nx : Int32} : (T_comes a v vn nx = (a, 0)) ∨ (¬ G_no a nx ∧ ¬ a 2 nx.toNatClampNeg 3 ≤ a 3 nx.toNatClampNeg 0 ∧ T_comes a v vn nx = (T_onto a v vn nx, 1)) := by
  unfold T_comes
  by_cases h1 : G_no a nx
  · rw [if_pos h1]
    exact Or.inl rfl
  · rw [if_neg h1]
    by_cases h2 : L_open a nx.toNatClampNeg = 0
    · rw [if_pos h2]
      exact Or.inl rfl
    · rw [if_neg h2]
      refine Or.inr ⟨h1, fun h3 => h2 ?_, rfl⟩
      unfold L_open
      by_cases h5 : a 2 nx.toNatClampNeg 7 = 0
      · rw [if_pos h5, if_pos h3]
      · rw [if_neg h5]
theorem Jv_first (hT : Tbl nd nl nf lv fv) (h : Jv nd nl nf lv fv ck z a) (hck : ck ≤ 1000) (hl : l < nl) : Jv nd nl nf lv fv ck z (T_first a l).1 ∧ Mono a (T_first a l).1 := by
  have hnl := hT.2.1
  have hV := h.V200
  have h4 := h.V4
  obtain ⟨jS, jc, jR, jW, jJ, jV, jC, jF⟩ := id h
  unfold T_first
  by_cases hno : T_no a (R_get (a 3 l 0) (a 4 l) 0)
  · rw [if_pos hno]
    exact ⟨h, Mono.refl a⟩
  · rw [if_neg hno]
    obtain ⟨m, hm⟩ := jR l hl
    obtain ⟨ti, ro, r1, r2, r3, r4, r5, r6, r7, r8, -⟩ := id hm
    have h0 : 0 < m := by
      rcases Nat.eq_zero_or_pos m with h0 | h0
      · refine absurd (Or.inl ?_) hno
        unfold R_get
        rw [if_neg (by decide), if_pos (by rw [r5, h0]; decide)]
        decide
      · exact h0
    have hg3 : R_get (a 3 l 0) (a 4 l) 0 = a 4 l 0 := rget (by decide) (by rw [r5]; exact nI_ge (a := 0) h0 (by omega))
    obtain ⟨v, e, f1, f2, f3, f4, f5, f6, f7⟩ := r8 0 h0
    rw [hg3, f2, nI_clamp (by omega)]
    unfold T_firstV
    by_cases hhas : L_has a l (a 0 0 0) = 0
    · rw [if_pos hhas]
      exact ⟨h, Mono.refl a⟩
    · rw [if_neg hhas]
      have hend : a 6 l 0 ≤ nI ck := by
        unfold L_has at hhas
        rw [if_neg (by rw [r6]; exact nI_ge (a := 0) h0 (by omega)), rget (by decide) (by rw [r6]; exact nI_ge (a := 0) h0 (by omega)), jc] at hhas
        apply Int32.not_lt.mp
        intro hc
        exact hhas (if_pos hc)
      by_cases harr : a 15 v 1 = a 2 l 1
      · rw [if_pos harr]
        exact Jv_arrive hT h hck hl hm h0 f2 hend f1
      · rw [if_neg harr]
        rcases comes_cases (v := v) (k := 0) (vn := nI v) jS.1 hnl (nx := T_next a v (a 2 l 1)) with hc | ⟨hgn, hop, hc⟩
        · rw [hc, if_pos rfl]
          exact ⟨h, Mono.refl a⟩
        · rw [hc, if_neg (show ¬ ((1 : Int32) = 0) by decide)]
          obtain ⟨k, g, k1, k2, k3, k4, k5, k6, k7⟩ := T_next_from jS.1 hnl jS.2.2.2.1 (jV v f1) (by omega) hgn
          rw [k2, nI_clamp (by omega)] at hop
          rw [k2]
          obtain ⟨mk, hr⟩ := jR k k1
          have hadj : lv k 0 = lv l 1 := by
            by_cases hz : a 15 v 2 = 0
            · have hat := (jV v f1).at1 f4 k3 k4 (by omega)
              have hg1 : 1 ≤ g := by
                obtain ⟨s, f, st, g', dr, y1, y2, y3, y4, y5, y6, y7, y8, y9, y10, y11, y12, y13, y14, y15, -⟩ := jV v f1
                have hs1 : s = 1 := (nI_eq (b := 1) (by omega) (by decide)).mp (y1.symm.trans f4)
                have := (y15 hs1).1
                have hgg : g' = g := (nI_eq (by omega) (by omega)).mp (y7.symm.trans k3)
                omega
              rw [k7 hz hg1, ← hat, f5, nI_clamp (by omega)]
            · rw [k6 hz]
              exact jS.2.2.2.1 l hl 1 (by decide)
          exact Jv_move hT h (by omega) hl hm h0 f2 hend k1 hr (by rw [← jS.2.2.2.1 k k1 3 (by decide)]; exact hop) hadj k3 k5 f1 k4
theorem Jv_many (hT : Tbl nd nl nf lv fv) (hck : ck ≤ 1000) (hl : l < nl) : ∀ (d : Nat) (a : St), Jv nd nl nf lv fv ck z a → Jv nd nl nf lv fv ck z (T_many l d a) ∧ Mono a (T_many l d a)
  | 0, a, h => ⟨h, Mono.refl a⟩
  | d + 1, a, h => by
    obtain ⟨h1, h2⟩ := Jv_first hT h hck hl
    unfold T_many
    split
    · exact ⟨h1, h2⟩
    · obtain ⟨h3, h4⟩ := Jv_many hT hck hl d _ h1
      exact ⟨h3, h2.trans h4⟩
theorem Jv_links (hT : Tbl nd nl nf lv fv) (h : Jv nd nl nf lv fv ck z a) (hck : ck ≤ 1000) : Jv nd nl nf lv fv ck z (T_links a) ∧ Mono a (T_links a) := by
  have hnl := hT.2.1
  unfold T_links
  split
  · obtain ⟨f, hf, hfm⟩ := fmod_in (x := a 0 0 0) (by rw [h.2.1, nI_toInt (by omega)]; omega) h.1.1 hT.1 hnl
    rw [hfm, h.1.1]
    have hN : nL a = nl := by show (a 1 0 0).toNatClampNeg = nl; rw [h.1.1, nI_clamp (by omega)]
    rw [hN]
    refine itN_keepB (P := fun b => Jv nd nl nf lv fv ck z b ∧ Mono a b) (N := nl) ⟨h, Mono.refl a⟩ (fun i b hi hb => ?_) nl (Nat.le_refl _)
    obtain ⟨r, hr1, hr2⟩ := lnum_in hf hi hnl
    unfold T_link
    rw [hr1, nI_clamp (by omega)]
    obtain ⟨q1, q2⟩ := Jv_many hT hck hr2 (T_most b r).toNatClampNeg b hb.1
    exact ⟨q1, hb.2.trans q2⟩
  · exact ⟨h, Mono.refl a⟩
theorem Jv_node (hT : Tbl nd nl nf lv fv) (h : Jv nd nl nf lv fv ck z a) (hck : ck ≤ 1000) (hn : n < nd) : Jv nd nl nf lv fv ck z (T_node n a) ∧ Mono a (T_node n a) := by
  have hnl := hT.2.1
  have hV := h.V200
  obtain ⟨jS, jc, jR, jW, jJ, jV, jC, jF⟩ := id h
  unfold T_node
  by_cases hno : T_no a (R_get (a 12 n 0) (a 13 n) 0)
  · rw [if_pos hno]
    exact ⟨h, Mono.refl a⟩
  · rw [if_neg hno]
    obtain ⟨m, hm⟩ := jW n hn
    have hm12 := hm.2.1
    have hm200 := hm.1
    have h0 : 0 < m := by
      rcases Nat.eq_zero_or_pos m with h0 | h0
      · refine absurd (Or.inl ?_) hno
        unfold R_get
        rw [if_neg (by decide), if_pos (by rw [hm12, h0]; decide)]
        decide
      · exact h0
    have hg3 : R_get (a 12 n 0) (a 13 n) 0 = a 13 n 0 := rget (by decide) (by rw [hm12]; exact nI_ge (a := 0) h0 (by omega))
    obtain ⟨v, f1, f2, f3⟩ := hm.2.2 0 h0
    rw [hg3, f2, nI_clamp (by omega)]
    unfold T_nodeV
    rcases comes_cases (v := v) (k := 0) (vn := nI v) jS.1 hnl (nx := T_next a v (nI n)) with hc | ⟨hgn, hop, hc⟩
    · rw [hc, if_pos rfl]
      exact ⟨h, Mono.refl a⟩
    · rw [hc, if_neg (show ¬ ((1 : Int32) = 0) by decide)]
      obtain ⟨k, g, k1, k2, k3, k4, k5, -⟩ := T_next_from jS.1 hnl jS.2.2.2.1 (jV v f1) (by omega) hgn
      rw [k2, nI_clamp (by omega)] at hop
      rw [k2]
      obtain ⟨mk, hr⟩ := jR k k1
      exact Jv_enter hT h (by omega) hn hm h0 f2 k1 hr (by rw [← jS.2.2.2.1 k k1 3 (by decide)]; exact hop) k3 k5 f1 k4
theorem Jv_nodes (hT : Tbl nd nl nf lv fv) (h : Jv nd nl nf lv fv ck z a) (hck : ck ≤ 1000) : Jv nd nl nf lv fv ck z (T_nodes a) ∧ Mono a (T_nodes a) := by
  have hnd := hT.2.2.1
  have hN : nN a = nd := by show (a 0 0 2).toNatClampNeg = nd; rw [h.1.2.1, nI_clamp (by omega)]
  unfold T_nodes
  rw [hN]
  refine itN_keepB (P := fun b => Jv nd nl nf lv fv ck z b ∧ Mono a b) (N := nd) ⟨h, Mono.refl a⟩ (fun i b hi hb => ?_) nd (Nat.le_refl _)
  obtain ⟨q1, q2⟩ := Jv_node hT hb.1 hck hi
  exact ⟨q1, hb.2.trans q2⟩
/-- numbers that none of it speaks of -/
theorem Jv_ctl (h : Jv nd nl nf lv fv ck z a) (e0 : b 0 0 = a 0 0) (e1 : b 1 = a 1) (e2 : ∀ i q, q < 4 ∨ q = 7 ∨ q = 9 ∨ q = 10 → b 2 i q = a 2 i q) (e8 : ∀ k, k < nl → lv k 2 ≤ a 2 k 8 → lv k 2 ≤ b 2 k 8) (eF : ∀ F, F = 3 ∨ F = 4 ∨ F = 5 ∨ F = 6 ∨ F = 12 ∨ F = 13 ∨ F = 14 ∨ F = 15 ∨ F = 16 ∨ F = 30 → b F = a F) : Jv nd nl nf lv fv ck z b ∧ Mono a b := by
  obtain ⟨jS, jc, jR, jW, jJ, jV, jC, jF⟩ := h
  have hV : nV b = nV a := by show (b 0 0 4).toNatClampNeg = _; rw [e0]
  have b3 := eF 3 (by decide)
  have b4 := eF 4 (by decide)
  have b5 := eF 5 (by decide)
  have b6 := eF 6 (by decide)
  have b12 := eF 12 (by decide)
  have b13 := eF 13 (by decide)
  have b14 := eF 14 (by decide)
  have b15 := eF 15 (by decide)
  have b16 := eF 16 (by decide)
  have b30 := eF 30 (by decide)
  refine ⟨⟨Stt_same jS (by rw [e1]) (by rw [e0]) (by rw [e0]) (fun k q hq => e2 k q (by omega)) (fun f q _ => by rw [b14]), by rw [e0]; exact jc, fun k hk => ?_, fun n hn => ?_, WtJ_same jJ (fun i _ => by rw [b12, b13]; exact ⟨rfl, rfl⟩), fun u hu => Veh_same (jV u (by omega)) (Nat.le_refl _) (by rw [b15]) (by rw [b16]) (by rw [b30]), ?_, fun f hf => Flw_same (jF f hf) (Nat.le_refl _) fun q _ => by rw [b14]⟩, by omega, fun u _ h2 => by rw [b15]; exact h2⟩
  · obtain ⟨m, hm⟩ := jR k hk
    exact ⟨m, Rw_same hm (Nat.le_refl _) (by omega) (by rw [b3]) (by rw [b4]) (by rw [b5]) (by rw [b6]) (by rw [e2 k 9 (by omega), e2 k 10 (by omega)]) (e8 k hk) fun u _ h1 h5 => by rw [b15]; exact ⟨h1, h5, rfl⟩⟩
  · obtain ⟨m, hm⟩ := jW n hn
    exact ⟨m, Wt_same hm (by omega) (by rw [b12]) (by rw [b13]) fun j u _ _ _ h3 => by rw [b15]; exact h3⟩
  · have hcn : ∀ s, cN b s (nV a) = cN a s (nV a) := fun s => cN_congr (nV a) fun u _ => by rw [b15]
    obtain ⟨c4, c5, c6, c7, c8, c9, c10, c11⟩ := jC
    unfold Cnt
    rw [hV, e0, b14, b12, b3, hcn 0, hcn 1, hcn 2, hcn 3]
    exact ⟨c4, c5, c6, c7, c8, c9, c10, c11⟩
theorem Q_le {g : Nat → Int32} {t : Int32} : ∀ d k, Q_in g t d k ≤ k + d
  | 0, k => Nat.le_refl _
  | d + 1, k => by
    unfold Q_in
    split
    · omega
    · have := Q_le (g := g) (t := t) d (k + 1)
      omega
theorem Rwm.q {k m : Nat} (h : Rwm lv ck a k m) (t : Int32) : ∃ q, q ≤ m ∧ m ≤ 30 ∧ L_q a k t = nI q ∧ a 3 k 0 = nI m := by
  obtain ⟨ti, ro, h1, h2, h3, h4, h5, h6, h7, h8, -⟩ := h
  refine ⟨Q_in (a 6 k) t (a 5 k 0).toNatClampNeg 0, ?_, by omega, rfl, h5⟩
  have := Q_le (g := a 6 k) (t := t) (a 5 k 0).toNatClampNeg 0
  rw [h6, nI_clamp (by omega)] at this ⊢
  omega
theorem cost_ge {k m : Nat} (h : Rwm lv ck a k m) (hti : ∃ ti, lv k 2 = nI ti ∧ ti ≤ 20) (e2 : a 2 k 2 = lv k 2) (hr : (a 2 k 5).toInt ≤ 3) (t : Int32) : lv k 2 ≤ L_cost a k t := by
  obtain ⟨q, hq, hm, hL, -⟩ := h.q t
  obtain ⟨ti, t1, t2⟩ := hti
  unfold L_cost
  rw [e2, t1, hL]
  by_cases h0 : a 2 k 5 ≤ 0
  · rw [if_pos h0, show (10 : Int32) = nI 10 from rfl, pk_mul, nI_add]
    exact nI_le (by omega) (by omega)
  · rw [if_neg h0]
    have h1 := m_le0 h0
    have hr3 : a 2 k 5 = nI (a 2 k 5).toNatClampNeg := m_n0 (by omega)
    have hb : (a 2 k 5).toNatClampNeg ≤ 3 := by have := m_tn (v := a 2 k 5) (by omega); omega
    have hb0 : 1 ≤ (a 2 k 5).toNatClampNeg := by have := m_tn (v := a 2 k 5) (by omega); omega
    generalize (a 2 k 5).toNatClampNeg = r at hr3 hb hb0
    have hqr : (q + r - 1) / r ≤ 1000 := Nat.le_trans (Nat.div_le_self _ _) (by omega)
    rw [hr3, nI_add, show (1 : Int32) = nI 1 from rfl, pk_sub (by omega), pk_div (by omega) (by omega) (by omega), nI_add]
    generalize (q + r - 1) / r = dq at hqr ⊢
    exact nI_le (by omega) (by omega)
end DRIVE
