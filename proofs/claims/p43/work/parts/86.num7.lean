/-! ways; a vehicle comes; what changes nothing of it -/
theorem G_scan_from {a : St} {g : Nat → Int32} {fr : Int32} : ∀ d i, G_scan a g fr d i = -1 ∨ ∃ k, i ≤ k ∧ k < i + d ∧ G_scan a g fr d i = nI k ∧ a 2 k 0 = fr
  | 0, i => Or.inl rfl
  | d + 1, i => by
    have ih := G_scan_from (a := a) (g := g) (fr := fr) d (i + 1)
    have hn : G_scan a g fr d (i + 1) = -1 ∨ ∃ k, i ≤ k ∧ k < i + (d + 1) ∧ G_scan a g fr d (i + 1) = nI k ∧ a 2 k 0 = fr := by
      rcases ih with h | ⟨k, h1, h2, h3, h4⟩
      · exact Or.inl h
      · exact Or.inr ⟨k, by omega, by omega, h3, h4⟩
    unfold G_scan
    by_cases h1 : a 2 i 0 = fr
    · rw [if_pos h1]
      by_cases h2 : a 2 i 7 = 0
      · rw [if_pos h2]
        by_cases h3 : g (a 2 i 1).toNatClampNeg = -1
        · rw [if_pos h3]
          exact hn
        · rw [if_neg h3]
          by_cases h4 : a 2 i 8 + g (a 2 i 1).toNatClampNeg = g fr.toNatClampNeg
          · rw [if_pos h4]
            exact Or.inr ⟨i, Nat.le_refl _, by omega, rfl, h1⟩
          · rw [if_neg h4]
            exact hn
      · rw [if_neg h2]
        exact hn
    · rw [if_neg h1]
      exact hn
theorem G_first_from {a : St} {nl : Nat} {fr to : Int32} (hn : a 1 0 0 = nI nl) (hnl : nl ≤ 24) (h : ¬ G_no a (G_first a fr to)) : ∃ k, k < nl ∧ G_first a fr to = nI k ∧ a 2 k 0 = fr := by
  have hm1 : ¬ (G_first a fr to = -1) := fun h9 => h (Or.inl (by rw [h9]; decide))
  unfold G_first at hm1 h ⊢
  by_cases h1 : fr = to
  · rw [if_pos h1] at hm1
    exact absurd rfl hm1
  · rw [if_neg h1] at hm1 h ⊢
    by_cases h2 : bf a to.toNatClampNeg fr.toNatClampNeg = -1
    · rw [if_pos h2] at hm1
      exact absurd rfl hm1
    · rw [if_neg h2] at hm1 h ⊢
      have hnn : nL a = nl := by show (a 1 0 0).toNatClampNeg = nl; rw [hn, nI_clamp (by omega)]
      rcases G_scan_from (a := a) (g := bf a to.toNatClampNeg) (fr := fr) (nL a) 0 with h9 | ⟨k, h3, h4, h5, h6⟩
      · exact absurd h9 hm1
      · exact ⟨k, by omega, h5, h6⟩
/-- a way, so far planned -/
def Way (nl : Nat) (lv : Tb) (b : St) (v : Nat) : Prop := ∃ w : Nat, b 15 v 11 = nI w ∧ w ≤ 11 ∧ (∀ j, j < w → ∃ k, k < nl ∧ b 16 v j = nI k) ∧ ∀ j, j + 1 < w → lv (b 16 v (j + 1)).toNatClampNeg 0 = lv (b 16 v j).toNatClampNeg 1
def WayT (nl : Nat) (lv : Tb) (b : St) (v : Nat) (nd : Int32) : Prop := ∃ w : Nat, b 15 v 11 = nI w ∧ w ≤ 11 ∧ (∀ j, j < w → ∃ k, k < nl ∧ b 16 v j = nI k) ∧ (∀ j, j + 1 < w → lv (b 16 v (j + 1)).toNatClampNeg 0 = lv (b 16 v j).toNatClampNeg 1) ∧ (1 ≤ w → w < 11 → lv (b 16 v (w - 1)).toNatClampNeg 1 = nd)
/-- only the way of v is another -/
def OnlyWay (b c : St) (v : Nat) : Prop := (∀ u, u ≠ v → c 15 u = b 15 u ∧ c 16 u = b 16 u) ∧ (∀ q, q ≠ 11 → c 15 v q = b 15 v q) ∧ ∀ f, f ≠ 15 → f ≠ 16 → c f = b f
theorem OnlyWay.refl (b : St) (v : Nat) : OnlyWay b b v := ⟨fun _ _ => ⟨rfl, rfl⟩, fun _ _ => rfl, fun _ _ _ => rfl⟩
theorem OnlyWay.trans {b c d : St} {v : Nat} (h : OnlyWay b c v) (g : OnlyWay c d v) : OnlyWay b d v := ⟨fun u hu => ⟨(g.1 u hu).1.trans (h.1 u hu).1, (g.1 u hu).2.trans (h.1 u hu).2⟩, fun q hq => (g.2.1 q hq).trans (h.2.1 q hq), fun f f15 f16 => (g.2.2 f f15 f16).trans (h.2.2 f f15 f16)⟩
theorem plan_step {nl : Nat} {lv : Tb} {b : St} {v k : Nat} {nd : Int32} (h : WayT nl lv b v nd) (hk : k < nl) (hnl : nl ≤ 24) (h0 : lv k 0 = nd) : WayT nl lv (V_plan b v (nI k)) v (lv k 1) ∧ OnlyWay b (V_plan b v (nI k)) v := by
  obtain ⟨w, h1, h2, h3, h4, h5⟩ := h
  unfold V_plan
  by_cases hw : 11 ≤ b 15 v 11
  · rw [if_pos hw]
    have h11 : 11 ≤ w := by
      rw [h1] at hw
      exact (nI_leI (a := 11) (by omega) (by omega)).mp hw
    exact ⟨⟨w, h1, h2, h3, h4, fun _ h9 => by omega⟩, OnlyWay.refl b v⟩
  · rw [if_neg hw]
    have h11 : w < 11 := by
      apply Classical.byContradiction
      intro hc
      exact hw (by rw [h1]; exact nI_le (a := 11) (by omega) (by omega))
    have hwc : (b 15 v 11).toNatClampNeg = w := by rw [h1, nI_clamp (by omega)]
    have e15 : S2 (S2 b 16 v (upd (b 16 v) (b 15 v 11).toNatClampNeg (nI k))) 15 v (upd (S2 b 16 v (upd (b 16 v) (b 15 v 11).toNatClampNeg (nI k)) 15 v) 11 (S2 b 16 v (upd (b 16 v) (b 15 v 11).toNatClampNeg (nI k)) 15 v 11 + 1)) = S2 (S2 b 16 v (upd (b 16 v) w (nI k))) 15 v (upd (b 15 v) 11 (nI (w + 1))) := by
      rw [S2_nf (show 15 ≠ 16 by decide), hwc, h1, nI_1]
    have e15' : S2 (S2 b 16 v (upd (b 16 v) (b 15 v 11).toNatClampNeg (nI k))) 15 v (upd (b 15 v) 11 (b 15 v 11 + 1)) = S2 (S2 b 16 v (upd (b 16 v) w (nI k))) 15 v (upd (b 15 v) 11 (nI (w + 1))) := by
      rw [hwc, h1, nI_1]
    rw [e15']
    have x16 : ∀ j, S2 (S2 b 16 v (upd (b 16 v) w (nI k))) 15 v (upd (b 15 v) 11 (nI (w + 1))) 16 v j = if j = w then nI k else b 16 v j := fun j => by rw [S2_nf (by decide), S2_eq]; rfl
    refine ⟨⟨w + 1, by rw [S2_eq, upd_eq], by omega, fun j hj => ?_, fun j hj => ?_, fun _ _ => ?_⟩, fun u hu => ⟨by rw [S2_ni hu, S2_nf (by decide)], by rw [S2_nf (by decide), S2_ni hu]⟩, fun q hq => by rw [S2_eq, upd_ne hq], fun f f15 f16 => ?_⟩
    · rw [x16]
      by_cases hjw : j = w
      · rw [if_pos hjw]
        exact ⟨k, hk, rfl⟩
      · rw [if_neg hjw]
        exact h3 j (by omega)
    · rw [x16, x16]
      by_cases hjw : j + 1 = w
      · rw [if_pos hjw, if_neg (by omega), nI_clamp (by omega), h0, ← h5 (by omega) h11, show w - 1 = j by omega]
      · rw [if_neg hjw, if_neg (by omega)]
        exact h4 j (by omega)
    · rw [x16, if_pos (by omega), nI_clamp (by omega)]
    · funext i
      rw [S2_nf f15, S2_nf f16]
theorem way_plan {nl : Nat} {lv : Tb} {v : Nat} {to : Int32} (hnl : nl ≤ 24) : ∀ (d : Nat) (nd : Int32) (b : St), b 1 0 0 = nI nl → (∀ k, k < nl → ∀ q, q < 4 → b 2 k q = lv k q) → WayT nl lv b v nd → Way nl lv (P_way v to d nd b).1 v ∧ OnlyWay b (P_way v to d nd b).1 v
  | 0, nd, b, _, _, h => by
    obtain ⟨w, h1, h2, h3, h4, -⟩ := h
    exact ⟨⟨w, h1, h2, h3, h4⟩, OnlyWay.refl b v⟩
  | d + 1, nd, b, e1, e2, h => by
    unfold P_way
    by_cases hnd : nd = to
    · rw [if_pos hnd]
      obtain ⟨w, h1, h2, h3, h4, -⟩ := h
      exact ⟨⟨w, h1, h2, h3, h4⟩, OnlyWay.refl b v⟩
    · rw [if_neg hnd]
      by_cases hno : G_no b (G_first b nd to)
      · rw [if_pos hno]
        obtain ⟨w, h1, h2, h3, h4, -⟩ := h
        exact ⟨⟨w, h1, h2, h3, h4⟩, OnlyWay.refl b v⟩
      · rw [if_neg hno]
        obtain ⟨k, hk, hkf, hk0⟩ := G_first_from e1 hnl hno
        rw [hkf, nI_clamp (by omega)]
        obtain ⟨g1, g2⟩ := plan_step h hk hnl ((e2 k hk 0 (by decide)).symm.trans hk0)
        have c1 : V_plan b v (nI k) 1 = b 1 := g2.2.2 1 (by decide) (by decide)
        have c2 : V_plan b v (nI k) 2 = b 2 := g2.2.2 2 (by decide) (by decide)
        obtain ⟨q1, q2⟩ := way_plan hnl d (V_plan b v (nI k) 2 k 1) (V_plan b v (nI k)) (by rw [c1]; exact e1) (by rw [c2]; exact e2) (by rw [c2, e2 k hk 1 (by decide)]; exact g1)
        exact ⟨q1, g2.trans q2⟩
/-- what a vehicle would go over next -/
theorem T_next_from {nl nf ck v : Nat} {lv : Tb} {a : St} {nx : Int32} (hn : a 1 0 0 = nI nl) (hnl : nl ≤ 24) (e2 : ∀ k, k < nl → ∀ q, q < 4 → a 2 k q = lv k q) (hV : Veh nl nf lv ck a v) (hck : ck < 90000) (h : ¬ G_no a (T_next a v nx)) : ∃ k g, k < nl ∧ T_next a v nx = nI k ∧ a 15 v 7 = nI g ∧ g < 100000 ∧ (a 15 v 2 = 0 → ∃ w : Nat, a 15 v 11 = nI w ∧ w ≤ 11 ∧ g < w ∧ a 16 v g = nI k) ∧ ((a 15 v 2 ≠ 0 → lv k 0 = nx) ∧ (a 15 v 2 = 0 → 1 ≤ g → lv k 0 = lv (a 30 v (g - 1)).toNatClampNeg 1)) := by
  obtain ⟨s, f, st, g, dr, h1, h2, h3, h4, h5, h6, h7, h8, h9, h10, h11, h12, h13, h14, h15, h16, h17⟩ := hV
  unfold T_next at h ⊢
  by_cases hk : a 15 v 2 = 0
  · rw [if_pos hk] at h ⊢
    obtain ⟨w, w1, w2, w3, w4, w5⟩ := h17 hk
    unfold V_next at h ⊢
    rw [h7, w1, if_neg (nI_nneg (by omega))] at h ⊢
    by_cases hgw : nI w ≤ nI g
    · rw [if_pos hgw] at h
      exact absurd (Or.inl (by decide)) h
    · rw [if_neg hgw, nI_clamp (by omega)] at h ⊢
      have hlt : g < w := by
        apply Classical.byContradiction
        intro hc
        exact hgw (nI_le (by omega) (by omega))
      obtain ⟨k, k1, k2⟩ := w3 g hlt
      refine ⟨k, g, k1, k2, rfl, by omega, fun _ => ⟨w, rfl, w2, hlt, k2⟩, fun h9 => absurd hk h9, fun _ hg1 => ?_⟩
      have h9 := w4 (g - 1) (by omega)
      rw [show g - 1 + 1 = g by omega, k2, nI_clamp (by omega)] at h9
      rw [h9, (w5 hg1).2]
  · rw [if_neg hk] at h ⊢
    obtain ⟨k, k1, k2, k3⟩ := G_first_from hn hnl h
    exact ⟨k, g, k1, k2, h7, by omega, fun h9 => absurd h9 hk, fun _ => (e2 k k1 0 (by decide)).symm.trans k3, fun h9 => absurd h9 hk⟩
