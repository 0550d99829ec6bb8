/-! a trial and the thing itself: the steps of links and nodes -/
section STP
variable {a b a' b' a9 b9 : St} {i v : Nat}
def Alk (a b' a' : St) : Prop := Sim b' a' ∧ a' 1 0 0 = a 1 0 0 ∧ a' 0 0 0 = a 0 0 0 ∧ a' 0 0 2 = a 0 0 2 ∧ a' 0 0 3 = a 0 0 3 ∧ nV a ≤ nV a'
theorem Sim.alk (h : Sim b a) : Alk a b a := ⟨h, rfl, rfl, rfl, rfl, Nat.le_refl _⟩
theorem Alk.trans (h : Alk a b' a') (g : Alk a' b9 a9) : Alk a b9 a9 := ⟨g.1, g.2.1.trans h.2.1, g.2.2.1.trans h.2.2.1, g.2.2.2.1.trans h.2.2.2.1, g.2.2.2.2.1.trans h.2.2.2.2.1, Nat.le_trans h.2.2.2.2.2 g.2.2.2.2.2⟩
theorem Alk.eL (h : Alk a b' a') : nL a' = nL a := by show (a' 1 0 0).toNatClampNeg = _; rw [h.2.1]
theorem Alk.eN (h : Alk a b' a') : nN a' = nN a := by show (a' 0 0 2).toNatClampNeg = _; rw [h.2.2.2.1]
theorem Alk.eF (h : Alk a b' a') : nFl a' = nFl a := by show (a' 0 0 3).toNatClampNeg = _; rw [h.2.2.2.2.1]
theorem Alk.iL (h : Alk a b' a') (hi : i < nL a) : i < nL a' := by rw [h.eL]; exact hi
theorem Alk.iN (h : Alk a b' a') (hi : i < nN a) : i < nN a' := by rw [h.eN]; exact hi
theorem Alk.iF (h : Alk a b' a') (hi : i < nFl a) : i < nFl a' := by rw [h.eF]; exact hi
theorem Alk.iV (h : Alk a b' a') (hi : i < nV a) : i < nV a' := Nat.lt_of_lt_of_le hi h.2.2.2.2.2
theorem Sim.gen2 {C : Nat → Prop} (h : Sim b' a') (ea : ∀ F, ¬ C F → a' F = a F) (c0 : ¬ C 0) (c1 : ¬ C 1) : Alk a b' a' := ⟨h, by rw [ea 1 c1], by rw [ea 0 c0], by rw [ea 0 c0], by rw [ea 0 c0], by show (a 0 0 4).toNatClampNeg ≤ (a' 0 0 4).toNatClampNeg; rw [ea 0 c0]; exact Nat.le_refl _⟩
theorem Sim.two {x y : Nat → Int32} (h : Sim b a) (e1 : x 1 = a 2 i 1) (e : i < nL a → ∀ k, k < 9 → y k = x k) : Alk a (S2 b 2 i y) (S2 a 2 i x) :=
  (h.gen (C := fun F => F = 2) (fun F hF => by funext j; exact S2_nf hF) (fun F hF => by funext j; exact S2_nf hF) (by decide) (by decide) (fun _ j hj => by
    by_cases hji : j = i
    · subst hji
      rw [S2_eq, S2_eq, e1]
      exact ⟨h.l1 hj, e hj⟩
    · rw [S2_ni hji, S2_ni hji]
      exact ⟨h.l1 hj, fun k hk => h.l hj hk⟩) (fun c => absurd c (by decide)) (fun c => absurd c (by decide)) (fun c => absurd c (by decide)) (fun c => absurd c (by decide)) (fun c => absurd c (by decide)) (fun c => absurd c (by decide))).gen2 (C := fun F => F = 2) (fun F hF => by funext j; exact S2_nf hF) (by decide) (by decide)
theorem Sim.f14 {x y : Nat → Int32} (h : Sim b a) (e1 : x 0 = a 14 i 0) (e : i < nFl a → ∀ k, k < 6 → y k = x k) : Alk a (S2 b 14 i y) (S2 a 14 i x) :=
  (h.gen (C := fun F => F = 14) (fun F hF => by funext j; exact S2_nf hF) (fun F hF => by funext j; exact S2_nf hF) (by decide) (by decide) (fun c => absurd c (by decide)) (fun c => absurd c (by decide)) (fun c => absurd c (by decide)) (fun c => absurd c (by decide)) (fun c => absurd c (by decide)) (fun _ j hj => by
    by_cases hji : j = i
    · subst hji
      rw [S2_eq, S2_eq, e1]
      exact ⟨h.f0 hj, e hj⟩
    · rw [S2_ni hji, S2_ni hji]
      exact ⟨h.f0 hj, fun k hk => h.fl hj hk⟩) (fun c => absurd c (by decide))).gen2 (C := fun F => F = 14) (fun F hF => by funext j; exact S2_nf hF) (by decide) (by decide)
theorem Sim.v15 {x y : Nat → Int32} (h : Sim b a) (e1 : x 11 = a 15 v 11) (e : v < nV a → ∀ k, k < 12 → y k = x k) : Alk a (S2 b 15 v y) (S2 a 15 v x) :=
  (h.gen (C := fun F => F = 15) (fun F hF => by funext j; exact S2_nf hF) (fun F hF => by funext j; exact S2_nf hF) (by decide) (by decide) (fun c => absurd c (by decide)) (fun c => absurd c (by decide)) (fun c => absurd c (by decide)) (fun c => absurd c (by decide)) (fun c => absurd c (by decide)) (fun c => absurd c (by decide)) (fun _ j hj => by
    obtain ⟨h0, h1, h2⟩ := h.ve hj
    unfold VehS
    rw [S2_nf (show 16 ≠ 15 by decide), S2_nf (show 16 ≠ 15 by decide)]
    by_cases hji : j = v
    · subst hji
      rw [S2_eq, S2_eq, e1]
      exact ⟨h0, e hj, h2⟩
    · rw [S2_ni hji, S2_ni hji]
      exact ⟨h0, h1, h2⟩)).gen2 (C := fun F => F = 15) (fun F hF => by funext j; exact S2_nf hF) (by decide) (by decide)
theorem Sim.s8 {x y : Nat → Int32} (h : Sim b a) (e1 : x 0 = a 8 i 0) (e : i < nN a → ∀ k, k < 3 → y k = x k) : Alk a (S2 b 8 i y) (S2 a 8 i x) :=
  (h.gen (C := fun F => F = 8) (fun F hF => by funext j; exact S2_nf hF) (fun F hF => by funext j; exact S2_nf hF) (by decide) (by decide) (fun c => absurd c (by decide)) (fun c => absurd c (by decide)) (fun c => absurd c (by decide)) (fun _ j hj => by
    obtain ⟨h0, h1, h2⟩ := h.s hj
    unfold SigS
    rw [S2_nf (show 9 ≠ 8 by decide), S2_nf (show 9 ≠ 8 by decide), S2_nf (show 10 ≠ 8 by decide), S2_nf (show 10 ≠ 8 by decide), S2_nf (show 11 ≠ 8 by decide), S2_nf (show 11 ≠ 8 by decide)]
    by_cases hji : j = i
    · subst hji
      rw [S2_eq, S2_eq, e1]
      exact ⟨h0, e hj, h2⟩
    · rw [S2_ni hji, S2_ni hji]
      exact ⟨h0, h1, h2⟩) (fun c => absurd c (by decide)) (fun c => absurd c (by decide)) (fun c => absurd c (by decide))).gen2 (C := fun F => F = 8) (fun F hF => by funext j; exact S2_nf hF) (by decide) (by decide)
theorem Sim.free {F0 : Nat} (hF0 : F0 = 7 ∨ F0 = 30) {x y : Nat → Int32} (h : Sim b a) : Alk a (S2 b F0 i y) (S2 a F0 i x) := by
  rcases hF0 with rfl | rfl
  · exact (h.gen (C := fun F => F = 7) (fun F hF => by funext j; exact S2_nf hF) (fun F hF => by funext j; exact S2_nf hF) (by decide) (by decide) (fun c => absurd c (by decide)) (fun c => absurd c (by decide)) (fun c => absurd c (by decide)) (fun c => absurd c (by decide)) (fun c => absurd c (by decide)) (fun c => absurd c (by decide)) (fun c => absurd c (by decide))).gen2 (C := fun F => F = 7) (fun F hF => by funext j; exact S2_nf hF) (by decide) (by decide)
  · exact (h.gen (C := fun F => F = 30) (fun F hF => by funext j; exact S2_nf hF) (fun F hF => by funext j; exact S2_nf hF) (by decide) (by decide) (fun c => absurd c (by decide)) (fun c => absurd c (by decide)) (fun c => absurd c (by decide)) (fun c => absurd c (by decide)) (fun c => absurd c (by decide)) (fun c => absurd c (by decide)) (fun c => absurd c (by decide))).gen2 (C := fun F => F = 30) (fun F hF => by funext j; exact S2_nf hF) (by decide) (by decide)
theorem RowS.off {f g C j : Nat} (h : RowS f g C b a j) (e1 : b' f j = b f j) (e2 : b' g j = b g j) (e3 : a' f j = a f j) (e4 : a' g j = a g j) : RowS f g C b' a' j := by
  unfold RowS
  rw [e1, e2, e3, e4]
  exact h
theorem Sim.row3 (h : Sim b a) (eb : ∀ F, ¬ (F = 3 ∨ F = 4) → b' F = b F) (ea : ∀ F, ¬ (F = 3 ∨ F = 4) → a' F = a F) (hr : ∀ j, j < nL a → RowS 3 4 30 b' a' j) : Alk a b' a' :=
  (h.gen (C := fun F => F = 3 ∨ F = 4) eb ea (by decide) (by decide) (fun c => absurd c (by decide)) (fun _ => hr) (fun c => absurd c (by decide)) (fun c => absurd c (by decide)) (fun c => absurd c (by decide)) (fun c => absurd c (by decide)) (fun c => absurd c (by decide))).gen2 (C := fun F => F = 3 ∨ F = 4) ea (by decide) (by decide)
theorem Sim.row5 (h : Sim b a) (eb : ∀ F, ¬ (F = 5 ∨ F = 6) → b' F = b F) (ea : ∀ F, ¬ (F = 5 ∨ F = 6) → a' F = a F) (hr : ∀ j, j < nL a → RowS 5 6 30 b' a' j) : Alk a b' a' :=
  (h.gen (C := fun F => F = 5 ∨ F = 6) eb ea (by decide) (by decide) (fun c => absurd c (by decide)) (fun c => absurd c (by decide)) (fun _ => hr) (fun c => absurd c (by decide)) (fun c => absurd c (by decide)) (fun c => absurd c (by decide)) (fun c => absurd c (by decide))).gen2 (C := fun F => F = 5 ∨ F = 6) ea (by decide) (by decide)
theorem Sim.row12 (h : Sim b a) (eb : ∀ F, ¬ (F = 12 ∨ F = 13) → b' F = b F) (ea : ∀ F, ¬ (F = 12 ∨ F = 13) → a' F = a F) (hr : ∀ j, j < nN a → RowS 12 13 200 b' a' j) : Alk a b' a' :=
  (h.gen (C := fun F => F = 12 ∨ F = 13) eb ea (by decide) (by decide) (fun c => absurd c (by decide)) (fun c => absurd c (by decide)) (fun c => absurd c (by decide)) (fun c => absurd c (by decide)) (fun _ => hr) (fun c => absurd c (by decide)) (fun c => absurd c (by decide))).gen2 (C := fun F => F = 12 ∨ F = 13) ea (by decide) (by decide)
theorem appF {f g : Nat} {c x : Int32} (F : Nat) (hF : ¬ (F = f ∨ F = g)) : R_app f g c a i x F = a F := by
  funext j
  exact R_app_off (fun e => hF (Or.inl e)) (fun e => hF (Or.inr e))
theorem dropF {f g : Nat} (F : Nat) (hF : ¬ (F = f ∨ F = g)) : R_drop f g a i F = a F := by
  funext j
  exact R_drop_off (fun e => hF (Or.inl e)) (fun e => hF (Or.inr e))
theorem Sim.app3 {x : Int32} (h : Sim b a) : Alk a (R_app 3 4 30 b i x) (R_app 3 4 30 a i x) := h.row3 appF appF fun j hj => by
  by_cases hji : j = i
  · subst hji
    exact (h.r3 hj).app (by decide) rfl (by decide)
  · exact (h.r3 hj).off (app_ni hji) (app_ni hji) (app_ni hji) (app_ni hji)
theorem Sim.app5 {x : Int32} (h : Sim b a) : Alk a (R_app 5 6 30 b i x) (R_app 5 6 30 a i x) := h.row5 appF appF fun j hj => by
  by_cases hji : j = i
  · subst hji
    exact (h.r5 hj).app (by decide) rfl (by decide)
  · exact (h.r5 hj).off (app_ni hji) (app_ni hji) (app_ni hji) (app_ni hji)
theorem Sim.app12 {x : Int32} (h : Sim b a) : Alk a (R_app 12 13 200 b i x) (R_app 12 13 200 a i x) := h.row12 appF appF fun j hj => by
  by_cases hji : j = i
  · subst hji
    exact (h.w hj).app (by decide) rfl (by decide)
  · exact (h.w hj).off (app_ni hji) (app_ni hji) (app_ni hji) (app_ni hji)
theorem Sim.drop3 (h : Sim b a) : Alk a (R_drop 3 4 b i) (R_drop 3 4 a i) := h.row3 dropF dropF fun j hj => by
  by_cases hji : j = i
  · subst hji
    exact (h.r3 hj).drop (by decide) (by decide)
  · exact (h.r3 hj).off (drop_ni hji) (drop_ni hji) (drop_ni hji) (drop_ni hji)
theorem Sim.drop5 (h : Sim b a) : Alk a (R_drop 5 6 b i) (R_drop 5 6 a i) := h.row5 dropF dropF fun j hj => by
  by_cases hji : j = i
  · subst hji
    exact (h.r5 hj).drop (by decide) (by decide)
  · exact (h.r5 hj).off (drop_ni hji) (drop_ni hji) (drop_ni hji) (drop_ni hji)
theorem Sim.drop12 (h : Sim b a) : Alk a (R_drop 12 13 b i) (R_drop 12 13 a i) := h.row12 dropF dropF fun j hj => by
  by_cases hji : j = i
  · subst hji
    exact (h.w hj).drop (by decide) (by decide)
  · exact (h.w hj).off (drop_ni hji) (drop_ni hji) (drop_ni hji) (drop_ni hji)
theorem Sim.z0 {x y : Nat → Int32} (h : Sim b a) (e : ∀ k, k < 6 → y k = x k) (e0 : x 0 = a 0 0 0) (e2 : x 2 = a 0 0 2) (e3 : x 3 = a 0 0 3) (e4 : x 4 = a 0 0 4) : Alk a (S2 b 0 0 y) (S2 a 0 0 x) := by
  obtain ⟨z, zV, n, l, r3, r5, s, w, f, v⟩ := h
  have eF : ∀ F, F ≠ 0 → S2 a 0 0 x F = a F := fun F hF => by funext i; exact S2_nf hF
  have gF : ∀ F, F ≠ 0 → S2 b 0 0 y F = b F := fun F hF => by funext i; exact S2_nf hF
  have xz : S2 a 0 0 x 0 0 = x := S2_eq
  have yz : S2 b 0 0 y 0 0 = y := S2_eq
  generalize S2 a 0 0 x = a' at eF xz ⊢
  generalize S2 b 0 0 y = b' at gF yz ⊢
  have eL : nL a' = nL a := by show (a' 1 0 0).toNatClampNeg = _; rw [eF 1 (by decide)]
  have eN : nN a' = nN a := by show (a' 0 0 2).toNatClampNeg = _; rw [xz, e2]
  have eFl : nFl a' = nFl a := by show (a' 0 0 3).toNatClampNeg = _; rw [xz, e3]
  have eV : nV a' = nV a := by show (a' 0 0 4).toNatClampNeg = _; rw [xz, e4]
  refine ⟨?_, by rw [eF 1 (by decide)], by rw [xz, e0], by rw [xz, e2], by rw [xz, e3], by omega⟩
  unfold Sim SigS VehS
  rw [eL, eN, eFl, eV, xz, yz, eF 1 (by decide), gF 1 (by decide), eF 2 (by decide), gF 2 (by decide), eF 8 (by decide), gF 8 (by decide), eF 9 (by decide), gF 9 (by decide), eF 10 (by decide), gF 10 (by decide), eF 11 (by decide), gF 11 (by decide), eF 14 (by decide), gF 14 (by decide), eF 15 (by decide), gF 15 (by decide), eF 16 (by decide), gF 16 (by decide), e4]
  refine ⟨e, zV, n, l, fun i hi => (r3 i hi).off (by rw [gF 3 (by decide)]) (by rw [gF 4 (by decide)]) (by rw [eF 3 (by decide)]) (by rw [eF 4 (by decide)]), fun i hi => (r5 i hi).off (by rw [gF 5 (by decide)]) (by rw [gF 6 (by decide)]) (by rw [eF 5 (by decide)]) (by rw [eF 6 (by decide)]), s, fun i hi => (w i hi).off (by rw [gF 12 (by decide)]) (by rw [gF 13 (by decide)]) (by rw [eF 12 (by decide)]) (by rw [eF 13 (by decide)]), f, v⟩
theorem Sim.loop {g : Nat → St → St} {N : Nat} (hs : Sim b a) (hst : ∀ i c d, i < N → Sim c d → nL d = nL a → nN d = nN a → nFl d = nFl a → d 0 0 0 = a 0 0 0 → Alk d (g i c) (g i d)) : ∀ n, n ≤ N → Alk a (itN g n b) (itN g n a)
  | 0, _ => hs.alk
  | n + 1, hn => by
    have ih := hs.loop hst n (by omega)
    exact ih.trans (hst n _ _ (by omega) ih.1 ih.eL ih.eN ih.eF ih.2.2.1)
theorem idx_lt {x n : Int32} (h0 : ¬ x < 0) (h1 : ¬ n ≤ x) : x.toNatClampNeg < n.toNatClampNeg := by
  have h2 : 0 ≤ x.toInt := by rw [Int32.lt_iff_toInt_lt] at h0; simpa using h0
  have h3 : x.toInt < n.toInt := by rw [Int32.le_iff_toInt_le] at h1; omega
  have h4 := m_tn h2
  have h5 := m_tn (v := n) (by omega)
  omega
theorem idx_lt2 {x n : Int32} (h : ¬ (x < 0 ∨ n ≤ x)) : x.toNatClampNeg < n.toNatClampNeg := idx_lt (fun e => h (Or.inl e)) (fun e => h (Or.inr e))
end STP
