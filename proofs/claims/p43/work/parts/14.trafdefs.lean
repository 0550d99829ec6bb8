/-! what a tick does, in numbers; what keeps within bounds -/
theorem Wf.s4 {M : Nat} {a : St} {i : Nat} {x : Nat → Int32} (h : Wf M a) : Wf M (S2 a 4 i x) := ⟨h.1, h.2.1, h.2.2.1, h.2.2.2.1, h.2.2.2.2⟩
theorem Wf.s6 {M : Nat} {a : St} {i : Nat} {x : Nat → Int32} (h : Wf M a) : Wf M (S2 a 6 i x) := ⟨h.1, h.2.1, h.2.2.1, h.2.2.2.1, h.2.2.2.2⟩
theorem Wf.s7 {M : Nat} {a : St} {i : Nat} {x : Nat → Int32} (h : Wf M a) : Wf M (S2 a 7 i x) := ⟨h.1, h.2.1, h.2.2.1, h.2.2.2.1, h.2.2.2.2⟩
theorem Wf.s9 {M : Nat} {a : St} {i : Nat} {x : Nat → Int32} (h : Wf M a) : Wf M (S2 a 9 i x) := ⟨h.1, h.2.1, h.2.2.1, h.2.2.2.1, h.2.2.2.2⟩
theorem Wf.s10 {M : Nat} {a : St} {i : Nat} {x : Nat → Int32} (h : Wf M a) : Wf M (S2 a 10 i x) := ⟨h.1, h.2.1, h.2.2.1, h.2.2.2.1, h.2.2.2.2⟩
theorem Wf.s11 {M : Nat} {a : St} {i : Nat} {x : Nat → Int32} (h : Wf M a) : Wf M (S2 a 11 i x) := ⟨h.1, h.2.1, h.2.2.1, h.2.2.2.1, h.2.2.2.2⟩
theorem Wf.s13 {M : Nat} {a : St} {i : Nat} {x : Nat → Int32} (h : Wf M a) : Wf M (S2 a 13 i x) := ⟨h.1, h.2.1, h.2.2.1, h.2.2.2.1, h.2.2.2.2⟩
theorem Wf.s16 {M : Nat} {a : St} {i : Nat} {x : Nat → Int32} (h : Wf M a) : Wf M (S2 a 16 i x) := ⟨h.1, h.2.1, h.2.2.1, h.2.2.2.1, h.2.2.2.2⟩
theorem Wf.s30 {M : Nat} {a : St} {i : Nat} {x : Nat → Int32} (h : Wf M a) : Wf M (S2 a 30 i x) := ⟨h.1, h.2.1, h.2.2.1, h.2.2.2.1, h.2.2.2.2⟩
theorem Wf.s2 {M : Nat} {a : St} {i : Nat} {x : Nat → Int32} (h : Wf M a) (h0 : in_ (x 0) 11) (h1 : in_ (x 1) 11) (h4 : (x 4).toInt ≤ 3) (h5 : (x 5).toInt ≤ 3) : Wf M (S2 a 2 i x) := by
  refine ⟨h.1, fun j hj => ?_, h.2.2.1, h.2.2.2.1, h.2.2.2.2⟩
  by_cases hji : j = i
  · subst hji
    obtain ⟨-, -, -, -, g5, g6⟩ := h.2.1 j hj
    unfold Wlink
    simp only [S2_eq]
    exact ⟨h0, h1, h4, h5, g5, g6⟩
  · have h9 := h.2.1 j hj
    unfold Wlink at h9 ⊢
    simp only [S2_ni hji]
    exact h9
theorem Wf.s3 {M : Nat} {a : St} {i : Nat} {x : Nat → Int32} (h : Wf M a) (h0 : in_ (x 0) 30) : Wf M (S2 a 3 i x) := by
  refine ⟨h.1, fun j hj => ?_, h.2.2.1, h.2.2.2.1, h.2.2.2.2⟩
  by_cases hji : j = i
  · subst hji
    obtain ⟨g1, g2, g3, g4, -, g6⟩ := h.2.1 j hj
    unfold Wlink
    simp only [S2_eq]
    exact ⟨g1, g2, g3, g4, h0, g6⟩
  · have h9 := h.2.1 j hj
    unfold Wlink at h9 ⊢
    simp only [S2_ni hji]
    exact h9
theorem Wf.s5 {M : Nat} {a : St} {i : Nat} {x : Nat → Int32} (h : Wf M a) (h0 : in_ (x 0) 30) : Wf M (S2 a 5 i x) := by
  refine ⟨h.1, fun j hj => ?_, h.2.2.1, h.2.2.2.1, h.2.2.2.2⟩
  by_cases hji : j = i
  · subst hji
    obtain ⟨g1, g2, g3, g4, g5, -⟩ := h.2.1 j hj
    unfold Wlink
    simp only [S2_eq]
    exact ⟨g1, g2, g3, g4, g5, h0⟩
  · have h9 := h.2.1 j hj
    unfold Wlink at h9 ⊢
    simp only [S2_ni hji]
    exact h9
theorem Wf.s8 {M : Nat} {a : St} {i : Nat} {x : Nat → Int32} (h : Wf M a) (h0 : in_ (x 0) 4) : Wf M (S2 a 8 i x) := by
  refine ⟨h.1, h.2.1, fun j hj => ?_, h.2.2.2.1, h.2.2.2.2⟩
  by_cases hji : j = i
  · subst hji
    obtain ⟨-, g2⟩ := h.2.2.1 j hj
    unfold Wnode
    simp only [S2_eq]
    exact ⟨h0, g2⟩
  · have h9 := h.2.2.1 j hj
    unfold Wnode at h9 ⊢
    simp only [S2_ni hji]
    exact h9
theorem Wf.s12 {M : Nat} {a : St} {i : Nat} {x : Nat → Int32} (h : Wf M a) (h0 : in_ (x 0) 200) : Wf M (S2 a 12 i x) := by
  refine ⟨h.1, h.2.1, fun j hj => ?_, h.2.2.2.1, h.2.2.2.2⟩
  by_cases hji : j = i
  · subst hji
    obtain ⟨g1, -⟩ := h.2.2.1 j hj
    unfold Wnode
    simp only [S2_eq]
    exact ⟨g1, h0⟩
  · have h9 := h.2.2.1 j hj
    unfold Wnode at h9 ⊢
    simp only [S2_ni hji]
    exact h9
theorem Wf.s14 {M : Nat} {a : St} {i : Nat} {x : Nat → Int32} (h : Wf M a) (h0 : in_ (x 0) 11) (h1 : in_ (x 1) 11) : Wf M (S2 a 14 i x) := by
  refine ⟨h.1, h.2.1, h.2.2.1, fun j hj => ?_, h.2.2.2.2⟩
  by_cases hji : j = i
  · subst hji
    unfold Wflow
    simp only [S2_eq]
    exact ⟨h0, h1⟩
  · have h9 := h.2.2.2.1 j hj
    unfold Wflow at h9 ⊢
    simp only [S2_ni hji]
    exact h9
theorem Wf.s15 {M : Nat} {a : St} {i : Nat} {x : Nat → Int32} (h : Wf M a) (h0 : in_ (x 11) 11) (h1 : in_ (x 1) 11) (h7 : in_ (x 7) M) : Wf M (S2 a 15 i x) := by
  refine ⟨h.1, h.2.1, h.2.2.1, h.2.2.2.1, fun j hj => ?_⟩
  by_cases hji : j = i
  · subst hji
    unfold Wveh
    simp only [S2_eq]
    exact ⟨h0, h1, h7⟩
  · have h9 := h.2.2.2.2 j hj
    unfold Wveh at h9 ⊢
    simp only [S2_ni hji]
    exact h9
theorem Wf.s0 {M : Nat} {a : St} {x : Nat → Int32} (h : Wf M a) (h0 : in_ (x 2) 12) (h1 : in_ (x 3) 10) (h2 : in_ (x 4) 200) : Wf M (S2 a 0 0 x) := ⟨⟨h.1.1, h0, h1, h2⟩, h.2.1, h.2.2.1, h.2.2.2.1, h.2.2.2.2⟩
theorem Wf.s1 {M : Nat} {a : St} {x : Nat → Int32} (h : Wf M a) (h0 : in_ (x 0) 24) : Wf M (S2 a 1 0 x) := ⟨⟨h0, h.1.2⟩, h.2.1, h.2.2.1, h.2.2.2.1, h.2.2.2.2⟩
theorem Wf.mono {M N : Nat} {a : St} (h : Wf M a) (hm : M ≤ N) : Wf N a := ⟨h.1, h.2.1, h.2.2.1, h.2.2.2.1, fun v hv => by
  obtain ⟨h1, h2, h3, h4⟩ := h.2.2.2.2 v hv
  exact ⟨h1, h2, h3, by have : (M : Int) ≤ N := by omega
                        omega⟩⟩
theorem in_pred {x : Int32} {n : Nat} (h : in_ x n) (hx : ¬ x ≤ 0) : in_ (x - 1) n := by
  have h1 := m_pred hx
  have h2 := m_le0 hx
  have h3 := h.2
  exact ⟨by omega, by omega⟩
theorem in_app {x c : Int32} {n : Nat} (h : in_ x n) (hx : ¬ c ≤ x) (hc : c.toInt = n) (hn : n < 1000000) : in_ (x + 1) n := in_succ h (by have := m_ge hx; omega) hn
theorem R_app_Wf3 {M : Nat} {a : St} {i : Nat} {v : Int32} (hi : i < 24) (h : Wf M a) : Wf M (R_app 3 4 30 a i v) := by
  unfold R_app
  split
  · exact h
  · rename_i hc
    exact h.s4.s3 (by rw [upd_eq]; exact in_app (h.2.1 i hi).2.2.2.2.1 hc rfl (by decide))
theorem R_app_Wf5 {M : Nat} {a : St} {i : Nat} {v : Int32} (hi : i < 24) (h : Wf M a) : Wf M (R_app 5 6 30 a i v) := by
  unfold R_app
  split
  · exact h
  · rename_i hc
    exact h.s6.s5 (by rw [upd_eq]; exact in_app (h.2.1 i hi).2.2.2.2.2 hc rfl (by decide))
theorem R_app_Wf12 {M : Nat} {a : St} {i : Nat} {v : Int32} (hi : i < 12) (h : Wf M a) : Wf M (R_app 12 13 200 a i v) := by
  unfold R_app
  split
  · exact h
  · rename_i hc
    exact h.s13.s12 (by rw [upd_eq]; exact in_app (h.2.2.1 i hi).2 hc rfl (by decide))
theorem R_drop_Wf3 {M : Nat} {a : St} {i : Nat} (hi : i < 24) (h : Wf M a) : Wf M (R_drop 3 4 a i) := by
  unfold R_drop
  split
  · exact h
  · rename_i hc
    exact (h.s3 (by rw [upd_eq]; exact in_pred (h.2.1 i hi).2.2.2.2.1 hc)).s4
theorem R_drop_Wf5 {M : Nat} {a : St} {i : Nat} (hi : i < 24) (h : Wf M a) : Wf M (R_drop 5 6 a i) := by
  unfold R_drop
  split
  · exact h
  · rename_i hc
    exact (h.s5 (by rw [upd_eq]; exact in_pred (h.2.1 i hi).2.2.2.2.2 hc)).s6
theorem R_drop_Wf12 {M : Nat} {a : St} {i : Nat} (hi : i < 12) (h : Wf M a) : Wf M (R_drop 12 13 a i) := by
  unfold R_drop
  split
  · exact h
  · rename_i hc
    exact (h.s12 (by rw [upd_eq]; exact in_pred (h.2.2.1 i hi).2 hc)).s13
theorem Wf.l2 {M : Nat} {a : St} {i k : Nat} {v : Int32} (hi : i < 24) (h : Wf M a) (hk : k ≠ 0 ∧ k ≠ 1 ∧ k ≠ 4 ∧ k ≠ 5) : Wf M (S2 a 2 i (upd (a 2 i) k v)) := by
  obtain ⟨h0, h1, h4, h5, -⟩ := h.2.1 i hi
  obtain ⟨k0, k1, k4, k5⟩ := hk
  exact h.s2 (by rw [upd_ne k0.symm]; exact h0) (by rw [upd_ne k1.symm]; exact h1) (by rw [upd_ne k4.symm]; exact h4) (by rw [upd_ne k5.symm]; exact h5)
theorem L_take_Wf {M : Nat} {a : St} {i : Nat} {v e : Int32} (hi : i < 24) (h : Wf M a) : Wf M (L_take a i v e) := (R_app_Wf5 hi (R_app_Wf3 hi h)).l2 hi (by decide)
theorem L_go_Wf {M : Nat} {a : St} {i : Nat} (hi : i < 24) (h : Wf M a) : Wf M (L_go a i) := (R_drop_Wf5 hi (R_drop_Wf3 hi h)).l2 hi (by decide)
theorem L_turn_Wf {M : Nat} {a : St} {i : Nat} {n : Int32} (h : Wf M a) : Wf M (L_turn a i n) := by
  unfold L_turn
  split
  · exact h
  · split
    · exact h
    · exact h.s7
theorem L_slow_Wf {M : Nat} {a : St} {i : Nat} (hi : i < 24) (h : Wf M a) : Wf M (L_slow a i) := by
  obtain ⟨h0, h1, h4, h5, -⟩ := h.2.1 i hi
  unfold L_slow X_slow
  split
  · split
    · exact h.s2 h0 h1 h4 h4
    · exact h.s2 h0 h1 h4 h5
  · exact h.s2 h0 h1 h4 h5
theorem L_reck_Wf {M : Nat} {a : St} {i : Nat} {tk : Int32} (hi : i < 24) (h : Wf M a) : Wf M (L_reck tk i a) := h.l2 hi (by decide)
theorem L_cq_Wf {M : Nat} {a : St} {i : Nat} {tk : Int32} (hi : i < 24) (h : Wf M a) : Wf M (L_cq a i tk) := by
  obtain ⟨h0, h1, h4, h5, -⟩ := h.2.1 i hi
  exact h.s2 h0 h1 h4 h5
theorem G_slow_Wf {M : Nat} {a : St} (h : Wf M a) : Wf M (G_slow a) := itN_keepB (N := nL a) h (fun i _ hi hb => L_slow_Wf (Nat.lt_of_lt_of_le hi (in_le h.1.1)) hb) _ (Nat.le_refl _)
theorem G_reck_Wf {M : Nat} {a : St} {tk : Int32} (h : Wf M a) : Wf M (G_reck a tk) := itN_keepB (N := nL a) h (fun i _ hi hb => L_reck_Wf (Nat.lt_of_lt_of_le hi (in_le h.1.1)) hb) _ (Nat.le_refl _)
theorem G_cq_Wf {M : Nat} {a : St} {tk : Int32} (h : Wf M a) : Wf M (G_cq a tk) := itN_keepB (N := nL a) h (fun i _ hi hb => L_cq_Wf (Nat.lt_of_lt_of_le hi (in_le h.1.1)) hb) _ (Nat.le_refl _)
theorem G_slow_off {a : St} {g j : Nat} (hg : g ≠ 2) : G_slow a g j = a g j := itN_keep (P := fun b => b g j = a g j) rfl (fun i b h => by rw [L_slow_off hg]; exact h) _
theorem G_reck_off {a : St} {tk : Int32} {g j : Nat} (hg : g ≠ 2) : G_reck a tk g j = a g j := itN_keep (P := fun b => b g j = a g j) rfl (fun i b h => by rw [L_reck_off hg]; exact h) _
theorem G_cq_off {a : St} {tk : Int32} {g j : Nat} (hg : g ≠ 2) : G_cq a tk g j = a g j := itN_keep (P := fun b => b g j = a g j) rfl (fun i b h => by rw [L_cq_off hg]; exact h) _
/-- a link's cell changed, but not what ways are reckoned of -/
theorem sameR.l2 {a : St} {i : Nat} {x : Nat → Int32} (h0 : x 0 = a 2 i 0) (h1 : x 1 = a 2 i 1) (h7 : x 7 = a 2 i 7) (h8 : x 8 = a 2 i 8) : sameR a (S2 a 2 i x) := ⟨by rw [S2_nf (by decide)], fun j _ => by
  by_cases hj : j = i
  · subst hj
    rw [S2_eq]
    exact ⟨h0.symm, h1.symm, h7.symm, h8.symm⟩
  · rw [S2_ni hj]
    exact ⟨rfl, rfl, rfl, rfl⟩⟩
theorem sameR.off {a : St} {f i : Nat} {x : Nat → Int32} (h1 : f ≠ 1) (h2 : f ≠ 2) : sameR a (S2 a f i x) := sameR.of (by funext j; rw [S2_nf h1.symm]) (by funext j; rw [S2_nf h2.symm])
theorem L_slow_sameR {a : St} {i : Nat} : sameR a (L_slow a i) := by
  unfold L_slow X_slow
  split
  · split <;> exact sameR.l2 rfl rfl rfl rfl
  · exact sameR.l2 rfl rfl rfl rfl
theorem L_cq_sameR {a : St} {i : Nat} {tk : Int32} : sameR a (L_cq a i tk) := sameR.l2 rfl rfl rfl rfl
theorem G_slow_sameR {a : St} : sameR a (G_slow a) := itN_keep (P := fun b => sameR a b) (sameR.refl a) (fun _ _ h => h.trans L_slow_sameR) _
theorem G_cq_sameR {a : St} {tk : Int32} : sameR a (G_cq a tk) := itN_keep (P := fun b => sameR a b) (sameR.refl a) (fun _ _ h => h.trans L_cq_sameR) _
theorem R_app_sameR {f g : Nat} {c : Int32} {a : St} {i : Nat} {v : Int32} (h1 : 1 ≠ f) (h2 : 1 ≠ g) (h3 : 2 ≠ f) (h4 : 2 ≠ g) : sameR a (R_app f g c a i v) := sameR.of (by funext j; rw [R_app_off h1 h2]) (by funext j; rw [R_app_off h3 h4])
theorem R_drop_sameR {f g : Nat} {a : St} {i : Nat} (h1 : 1 ≠ f) (h2 : 1 ≠ g) (h3 : 2 ≠ f) (h4 : 2 ≠ g) : sameR a (R_drop f g a i) := sameR.of (by funext j; rw [R_drop_off h1 h2]) (by funext j; rw [R_drop_off h3 h4])
theorem L_take_sameR {a : St} {i : Nat} {v e : Int32} : sameR a (L_take a i v e) := ((R_app_sameR (by decide) (by decide) (by decide) (by decide)).trans (R_app_sameR (by decide) (by decide) (by decide) (by decide))).trans (sameR.l2 rfl rfl rfl rfl)
theorem L_go_sameR {a : St} {i : Nat} : sameR a (L_go a i) := ((R_drop_sameR (by decide) (by decide) (by decide) (by decide)).trans (R_drop_sameR (by decide) (by decide) (by decide) (by decide))).trans (sameR.l2 rfl rfl rfl rfl)
theorem L_turn_sameR {a : St} {i : Nat} {n : Int32} : sameR a (L_turn a i n) := by
  unfold L_turn
  split
  · exact sameR.refl a
  · split
    · exact sameR.refl a
    · exact sameR.off (by decide) (by decide)
/-- the links that a vehicle went over, told beside the heap in family 30; kept in words, twelve to a word, five bits each -/
def TRg (gn : Nat → Nat) (lk : Nat → Nat → Nat) (τ : Tau) : Prop := ∀ v, v < 200 → 1 ≤ τ.2.2.1 v ∧ τ.2.2.1 v ≤ 2 * (gn v / 12) + 1 ∧ gn v ≤ 12 * τ.2.2.1 v ∧ ∀ j, j < τ.2.2.1 v → ∃ W : Nat, τ.2.2.2 v j = lN W ∧ W < 32 ^ (min 12 (gn v - 12 * j)) ∧ ∀ p, p < 12 → 12 * j + p < gn v → W / 32 ^ p % 32 = lk v (12 * j + p)
def TRab (tr : Option Nat) (a : St) (τ : Tau) : Prop := tr ≠ none → (∀ v, v < 200 → (a 0 0 4).toNatClampNeg ≤ v → a 15 v 7 = 0) ∧ TRg (fun v => (a 15 v 7).toNatClampNeg) (fun v j => (a 30 v j).toNatClampNeg) τ
def sameT (a b : St) : Prop := (∀ v, a 15 v 7 = b 15 v 7) ∧ a 30 = b 30 ∧ (a 0 0 4).toNatClampNeg ≤ (b 0 0 4).toNatClampNeg
theorem TRab.same {tr : Option Nat} {a b : St} {τ : Tau} (h : sameT a b) (ht : TRab tr a τ) : TRab tr b τ := fun hn => by
  obtain ⟨h0, h1⟩ := ht hn
  have e1 : (fun v => (a 15 v 7).toNatClampNeg) = fun v => (b 15 v 7).toNatClampNeg := by funext v; rw [h.1 v]
  have e2 : (fun v j => (a 30 v j).toNatClampNeg) = fun v j => (b 30 v j).toNatClampNeg := by rw [h.2.1]
  rw [e1, e2] at h1
  exact ⟨fun v hv hl => by rw [← h.1 v]; exact h0 v hv (Nat.le_trans h.2.2 hl), h1⟩
theorem sameT.of {a b : St} (h1 : a 15 = b 15) (h2 : a 30 = b 30) (h3 : a 0 0 4 = b 0 0 4) : sameT a b := ⟨fun v => by rw [h1], h2, by rw [h3]; exact Nat.le_refl _⟩
theorem sameT.trans {a b c : St} (h : sameT a b) (g : sameT b c) : sameT a c := ⟨fun v => (h.1 v).trans (g.1 v), h.2.1.trans g.2.1, Nat.le_trans h.2.2 g.2.2⟩
theorem sameT.refl (a : St) : sameT a a := ⟨fun _ => rfl, rfl, Nat.le_refl _⟩
theorem sameT.off {a : St} {f i : Nat} {x : Nat → Int32} (h1 : f ≠ 15) (h2 : f ≠ 30) (h3 : f ≠ 0) : sameT a (S2 a f i x) := sameT.of (by funext j; rw [S2_nf h1.symm]) (by funext j; rw [S2_nf h2.symm]) (by rw [S2_nf h3.symm])
theorem sameT.z0 {a : St} {x : Nat → Int32} (h : x 4 = a 0 0 4) : sameT a (S2 a 0 0 x) := sameT.of (by funext j; rw [S2_nf (by decide)]) (by funext j; rw [S2_nf (by decide)]) (by rw [S2_eq, h])
theorem sameT.v15 {a : St} {i : Nat} {x : Nat → Int32} (h : x 7 = a 15 i 7) : sameT a (S2 a 15 i x) := ⟨fun v => by
  by_cases hv : v = i
  · subst hv
    rw [S2_eq, h]
  · rw [S2_ni hv], by funext j; rw [S2_nf (by decide)], by rw [S2_nf (by decide)]; exact Nat.le_refl _⟩
/-- all that stands hidden: ways reckoned, trails -/
def Hid (L : Lay) (tr : Option Nat) (a : St) (κ : Kap) (τ : Tau) : Prop := TL L tr τ ∧ CV a κ ∧ TRab tr a τ
theorem Hid.same {L : Lay} {tr : Option Nat} {a b : St} {κ : Kap} {τ : Tau} {M : Nat} (hw : Wf M a) (h : sameR a b) (g : sameT a b) (hh : Hid L tr a κ τ) : Hid L tr b κ τ := ⟨hh.1, CV.same h (in_le hw.1.1) hh.2.1, hh.2.2.same g⟩
def cT (tr : Option Nat) : Nat := match tr with | none => 0 | some _ => 1
/-- what a trail's row may cost -/
def pB (tr : Option Nat) (B : Nat) : Nat := cT tr * (2 * (B / 12) + 1)
/-- Traffic.find -/
abbrev T_no (a : St) (n : Int32) : Prop := n < 0 ∨ a 0 0 4 ≤ n
def T_next (a : St) (v : Nat) (nd : Int32) : Int32 := if a 15 v 2 = 0 then V_next a v else G_first a nd (a 15 v 1)
def T_on1 (a : St) (v : Nat) (nx : Int32) : St := V_onto a v nx (a 2 nx.toNatClampNeg 2) (a 0 0 0)
def T_on2 (b : St) (v : Nat) (vn nx : Int32) : St := L_take b nx.toNatClampNeg vn (b 15 v 6)
def T_on3 (b : St) (v : Nat) (nx : Int32) : St := S2 b 30 v (upd (b 30 v) ((b 15 v 7).toNatClampNeg - 1) nx)
/-- a vehicle comes onto a link -/
def T_onto (a : St) (v : Nat) (vn nx : Int32) : St := T_on3 (T_on2 (T_on1 a v nx) v vn nx) v nx
def T_comes (a : St) (v : Nat) (vn nx : Int32) : St × Int32 := if G_no a nx then (a, 0) else if L_open a nx.toNatClampNeg = 0 then (a, 0) else (T_onto a v vn nx, 1)
def T_arr1 (b : St) : St := S2 b 0 0 (upd (b 0 0) 5 (b 0 0 5 - 1))
def T_arr2 (b : St) (v : Nat) : St := if b 15 v 0 < 0 then b else if b 0 0 3 ≤ b 15 v 0 then b else F_trip b (b 15 v 0).toNatClampNeg (b 15 v 9) (b 15 v 10)
def T_arrive (a : St) (v : Nat) : St := T_arr2 (T_arr1 (V_arr a v (a 0 0 0))) v
/-- the first vehicle of a link goes on -/
def T_firstV (a : St) (l v : Nat) (n : Int32) : St × Int32 :=
  if L_has a l (a 0 0 0) = 0 then (a, 0)
  else if a 15 v 1 = a 2 l 1 then (L_go (T_arrive a v) l, 1)
  else if (T_comes a v n (T_next a v (a 2 l 1))).2 = 0 then ((T_comes a v n (T_next a v (a 2 l 1))).1, 0)
  else (L_go (L_turn (T_comes a v n (T_next a v (a 2 l 1))).1 l (T_next a v (a 2 l 1))) l, 1)
def T_first (a : St) (l : Nat) : St × Int32 := if T_no a (R_get (a 3 l 0) (a 4 l) 0) then (a, 0) else T_firstV a l (R_get (a 3 l 0) (a 4 l) 0).toNatClampNeg (R_get (a 3 l 0) (a 4 l) 0)
def T_many (l : Nat) : Nat → St → St
  | 0, a => a
  | d + 1, a => if (T_first a l).2 = 0 then (T_first a l).1 else T_many l d (T_first a l).1
def T_nodeV (a : St) (n v : Nat) (vn : Int32) : St := if (T_comes a v vn (T_next a v (nI n))).2 = 0 then (T_comes a v vn (T_next a v (nI n))).1 else R_drop 12 13 (T_comes a v vn (T_next a v (nI n))).1 n
def T_node (n : Nat) (a : St) : St := if T_no a (R_get (a 12 n 0) (a 13 n) 0) then a else T_nodeV a n (R_get (a 12 n 0) (a 13 n) 0).toNatClampNeg (R_get (a 12 n 0) (a 13 n) 0)
abbrev nN (a : St) : Nat := (a 0 0 2).toNatClampNeg
abbrev nFl (a : St) : Nat := (a 0 0 3).toNatClampNeg
def T_nodes (a : St) : St := itN T_node (nN a) a
/-- the links, one after the other -/
def T_lnum (fst n : Int32) (i : Nat) : Int32 := if n ≤ fst + nI i then fst + nI i - n else fst + nI i
def T_most (a : St) (l : Nat) : Int32 := if S_green a (a 2 l 1).toNatClampNeg (nI l) = 0 then 0 else a 2 l 5
def T_link (fst n : Int32) (i : Nat) (a : St) : St := T_many (T_lnum fst n i).toNatClampNeg (T_most a (T_lnum fst n i).toNatClampNeg).toNatClampNeg a
def fmod (x y : Int32) : Int32 := if 0 ≤ x ^^^ y then x - x / y * y else if x - x / y * y = 0 then x - x / y * y else x - x / y * y + y
def T_links (a : St) : St := if 1 ≤ a 1 0 0 then itN (T_link (fmod (a 0 0 0) (a 1 0 0)) (a 1 0 0)) (nL a) a else a
def T_sig (tk : Int32) (n : Nat) (a : St) : St := if a 8 n 0 ≤ 0 then a else S_play a n (G_any a tk (S_links a n) (nL a) 0)
def T_sigs (a : St) : St := itN (T_sig (a 0 0 0)) (nN a) a
/-- a vehicle comes -/
def T_br1 (a : St) (f : Nat) : St := V_come a (a 0 0 4).toNatClampNeg (nI f) (a 14 f 1) (a 14 f 2) (a 0 0 0)
def T_br2 (b : St) (f : Nat) : St := S2 b 14 f (upd (b 14 f) 6 (b 14 f 6 + 1))
def T_wait (b : St) (f : Nat) : St := R_app 12 13 200 b (b 14 f 0).toNatClampNeg (b 0 0 4)
def T_under (b : St) : St := S2 b 0 0 (upd (b 0 0) 5 (b 0 0 5 + 1))
def T_given (b : St) (v f : Nat) : St := S2 (S2 b 15 v (upd (b 15 v) 3 3)) 14 f (upd (b 14 f) 8 (b 14 f 8 + 1))
def T_cnt (b : St) : St := S2 b 0 0 (upd (b 0 0) 4 (b 0 0 4 + 1))
def T_br3 (b : St) (v f : Nat) : St :=
  if b 14 f 2 = 0 then
    if (P_way v (b 15 v 1) 12 (b 14 f 0) b).2 = 0 then T_given (P_way v (b 15 v 1) 12 (b 14 f 0) b).1 v f
    else T_under (T_wait (P_way v (b 15 v 1) 12 (b 14 f 0) b).1 f)
  else T_under (T_wait b f)
def T_bring (a : St) (f : Nat) : St := T_cnt (T_br3 (T_br2 (T_br1 a f) f) (a 0 0 4).toNatClampNeg f)
def T_flow (f : Nat) (a : St) : St := if F_brings (a 14 f) (a 0 0 0) = 0 then a else if 200 ≤ a 0 0 4 then a else T_bring a f
def T_flows (a : St) : St := itN T_flow (nFl a) a
def T_costs (a : St) : St := if a 0 0 1 ≤ 0 then a else if a 0 0 0 - a 0 0 0 / a 0 0 1 * a 0 0 1 = 0 then G_reck a (a 0 0 0) else a
def T_clock (b : St) : St := S2 b 0 0 (upd (b 0 0) 0 (b 0 0 0 + 1))
def T_play (b : St) : St := T_nodes (T_links (T_sigs (T_flows b)))
def T_tick (a : St) : St := T_clock (G_cq (T_play (T_costs (G_slow a))) ((T_play (T_costs (G_slow a))) 0 0 0))

theorem S_next_off {b : St} {n g j : Nat} (h : g ≠ 8) : S_next b n g j = b g j := S2_nf h
theorem S_play_off {a : St} {n : Nat} {x : Int32} {g j : Nat} (h : g ≠ 8) : S_play a n x g j = a g j := by
  have h1 : S_tick a n g j = a g j := S2_nf h
  unfold S_play S_play1
  split
  · rw [S_next_off h, h1]
  · split
    · rw [S_next_off h, h1]
    · split
      · exact h1
      · split
        · rw [S_next_off h, h1]
        · exact h1
theorem T_sig_off {tk : Int32} {n : Nat} {a : St} {g : Nat} (h : g ≠ 8) : T_sig tk n a g = a g := by
  unfold T_sig
  split
  · rfl
  · funext j
    rw [S_play_off h]
theorem S_play_Wf {M : Nat} {a : St} {n : Nat} {x : Int32} (hn : n < 12) (h : Wf M a) : Wf M (S_play a n x) := by
  have h1 : Wf M (S_tick a n) := h.s8 (h.2.2.1 n hn).1
  have h2 : Wf M (S_next (S_tick a n) n) := h1.s8 (h1.2.2.1 n hn).1
  unfold S_play S_play1
  split
  · exact h2
  · split
    · exact h2
    · split
      · exact h1
      · split
        · exact h2
        · exact h1
theorem T_sig_Wf {M : Nat} {tk : Int32} {n : Nat} {a : St} (hn : n < 12) (h : Wf M a) : Wf M (T_sig tk n a) := by
  unfold T_sig
  split
  · exact h
  · exact S_play_Wf hn h
theorem T_sigs_Wf {M : Nat} {a : St} (h : Wf M a) : Wf M (T_sigs a) := itN_keepB (N := nN a) h (fun _ _ hj hb => T_sig_Wf (Nat.lt_of_lt_of_le hj (in_le h.1.2.1)) hb) _ (Nat.le_refl _)
theorem T_sigs_off {a : St} {g : Nat} (hg : g ≠ 8) : T_sigs a g = a g := itN_keep (P := fun b => b g = a g) rfl (fun _ _ h => by rw [T_sig_off hg]; exact h) _

theorem V_come_Wf {M : Nat} {a : St} {v : Nat} {fl to k t : Int32} (h : Wf M a) (ht : in_ to 11) : Wf M (V_come a v fl to k t) := h.s15 (x := X_come (a 15 v) fl to k t) (show in_ 0 11 from ⟨by decide, by decide⟩) ht (show in_ 0 M from ⟨by decide, by show (0 : Int) ≤ M; omega⟩)
theorem T_br1_Wf {M : Nat} {a : St} {f : Nat} (hf : f < 10) (h : Wf M a) : Wf M (T_br1 a f) := V_come_Wf h (h.2.2.2.1 f hf).2
theorem T_br2_Wf {M : Nat} {a : St} {f : Nat} (hf : f < 10) (h : Wf M a) : Wf M (T_br2 a f) := h.s14 (h.2.2.2.1 f hf).1 (h.2.2.2.1 f hf).2
theorem P_way_Wf {M : Nat} {v : Nat} {to : Int32} (hv : v < 200) : ∀ (d : Nat) (nd : Int32) (b : St), Wf M b → Wf M (P_way v to d nd b).1
  | 0, _, _, h => h
  | d + 1, nd, b, h => by
    unfold P_way
    split
    · exact h
    · split
      · exact h
      · exact P_way_Wf hv d _ _ (V_plan_Wf hv h)
theorem P_way_off {v : Nat} {to : Int32} {g : Nat} (h1 : g ≠ 15) (h2 : g ≠ 16) : ∀ (d : Nat) (nd : Int32) (b : St) (j : Nat), (P_way v to d nd b).1 g j = b g j
  | 0, _, _, _ => rfl
  | d + 1, nd, b, j => by
    unfold P_way
    split
    · rfl
    · split
      · rfl
      · rw [P_way_off h1 h2 d, V_plan_off h1 h2]
theorem P_way_15 {v : Nat} {to : Int32} {w k : Nat} (h : k ≠ 11) : ∀ (d : Nat) (nd : Int32) (b : St), (P_way v to d nd b).1 15 w k = b 15 w k
  | 0, _, _ => rfl
  | d + 1, nd, b => by
    unfold P_way
    split
    · rfl
    · split
      · rfl
      · rw [P_way_15 h d, V_plan_15 h]
theorem T_given_Wf {M : Nat} {b : St} {v f : Nat} (hv : v < 200) (hf : f < 10) (h : Wf M b) : Wf M (T_given b v f) := by
  obtain ⟨h1, h2, h3⟩ := h.2.2.2.2 v hv
  exact (h.s15 (i := v) (x := upd (b 15 v) 3 3) h1 h2 h3).s14 (h.2.2.2.1 f hf).1 (h.2.2.2.1 f hf).2
theorem T_under_Wf {M : Nat} {b : St} (h : Wf M b) : Wf M (T_under b) := h.s0 h.1.2.1 h.1.2.2.1 h.1.2.2.2
theorem T_wait_Wf {M : Nat} {b : St} {f : Nat} (hf : f < 10) (h : Wf M b) : Wf M (T_wait b f) := R_app_Wf12 (in_lt (h.2.2.2.1 f hf).1) h
theorem T_br3_Wf {M : Nat} {b : St} {v f : Nat} (hv : v < 200) (hf : f < 10) (h : Wf M b) : Wf M (T_br3 b v f) := by
  unfold T_br3
  split
  · split
    · exact T_given_Wf hv hf (P_way_Wf hv _ _ _ h)
    · exact T_under_Wf (T_wait_Wf hf (P_way_Wf hv _ _ _ h))
  · exact T_under_Wf (T_wait_Wf hf h)
theorem T_wait_off {b : St} {f g j : Nat} (h1 : g ≠ 12) (h2 : g ≠ 13) : T_wait b f g j = b g j := R_app_off h1 h2
theorem T_br3_00 {b : St} {v f k : Nat} (hk : k ≠ 5) : T_br3 b v f 0 0 k = b 0 0 k := by
  unfold T_br3
  split
  · split
    · unfold T_given
      rw [S2_nf (by decide), S2_nf (by decide), P_way_off (by decide) (by decide)]
    · unfold T_under
      rw [S2_eq, upd_ne hk, T_wait_off (by decide) (by decide), P_way_off (by decide) (by decide)]
  · unfold T_under
    rw [S2_eq, upd_ne hk, T_wait_off (by decide) (by decide)]
theorem T_br12_00 {a : St} {f k : Nat} : T_br2 (T_br1 a f) f 0 0 k = a 0 0 k := by
  unfold T_br2 T_br1 V_come
  rw [S2_nf (by decide), S2_nf (by decide)]
theorem T_bring_00 {a : St} {f k : Nat} (h4 : k ≠ 4) (h5 : k ≠ 5) : T_bring a f 0 0 k = a 0 0 k := by
  unfold T_bring T_cnt
  rw [S2_eq, upd_ne h4, T_br3_00 h5, T_br12_00]
theorem T_bring_Wf {M : Nat} {a : St} {f : Nat} (hf : f < 10) (h : Wf M a) (hv : (a 0 0 4).toInt < 200) : Wf M (T_bring a f) := by
  have hv2 : (a 0 0 4).toNatClampNeg < 200 := m_ltI h.1.2.2.2.1 hv
  have h3 : Wf M (T_br3 (T_br2 (T_br1 a f) f) (a 0 0 4).toNatClampNeg f) := T_br3_Wf hv2 hf (T_br2_Wf hf (T_br1_Wf hf h))
  have e4 : T_br3 (T_br2 (T_br1 a f) f) (a 0 0 4).toNatClampNeg f 0 0 4 = a 0 0 4 := by rw [T_br3_00 (by decide), T_br12_00]
  refine h3.s0 h3.1.2.1 h3.1.2.2.1 ?_
  rw [upd_eq, e4]
  exact in_succ h.1.2.2.2 hv (by decide)
theorem T_flow_00 {a : St} {f k : Nat} (h4 : k ≠ 4) (h5 : k ≠ 5) : T_flow f a 0 0 k = a 0 0 k := by
  unfold T_flow
  split
  · rfl
  · split
    · rfl
    · exact T_bring_00 h4 h5
theorem T_flow_Wf {M : Nat} {a : St} {f : Nat} (hf : f < 10) (h : Wf M a) : Wf M (T_flow f a) := by
  unfold T_flow
  split
  · exact h
  · split
    · exact h
    · rename_i hn
      exact T_bring_Wf hf h (m_ge hn)
theorem T_flows_00 {a : St} {k : Nat} (h4 : k ≠ 4) (h5 : k ≠ 5) : T_flows a 0 0 k = a 0 0 k := itN_keep (P := fun b => b 0 0 k = a 0 0 k) rfl (fun _ _ h => by rw [T_flow_00 h4 h5]; exact h) _
theorem T_flows_Wf {M : Nat} {a : St} (h : Wf M a) : Wf M (T_flows a) := itN_keepB (N := nFl a) h (fun _ _ hj hb => T_flow_Wf (Nat.lt_of_lt_of_le hj (in_le h.1.2.2.1)) hb) _ (Nat.le_refl _)
theorem P_way_sameR {v : Nat} {to : Int32} {d : Nat} {nd : Int32} {b : St} : sameR b (P_way v to d nd b).1 := sameR.of (by funext j; rw [P_way_off (by decide) (by decide)]) (by funext j; rw [P_way_off (by decide) (by decide)])
theorem T_br3_sameR {b : St} {v f : Nat} : sameR b (T_br3 b v f) := by
  have hw : ∀ c : St, sameR c (T_under (T_wait c f)) := fun c => (R_app_sameR (by decide) (by decide) (by decide) (by decide)).trans (sameR.off (by decide) (by decide))
  unfold T_br3
  split
  · split
    · exact P_way_sameR.trans ((sameR.off (by decide) (by decide)).trans (sameR.off (by decide) (by decide)))
    · exact P_way_sameR.trans (hw _)
  · exact hw _
theorem T_bring_sameR {a : St} {f : Nat} : sameR a (T_bring a f) := ((sameR.off (by decide) (by decide)).trans (sameR.off (by decide) (by decide))).trans (T_br3_sameR.trans (sameR.off (by decide) (by decide)))
theorem T_flow_sameR {a : St} {f : Nat} : sameR a (T_flow f a) := by
  unfold T_flow
  split
  · exact sameR.refl a
  · split
    · exact sameR.refl a
    · exact T_bring_sameR
theorem T_br3_15 {b : St} {v f w : Nat} : T_br3 b v f 15 w 7 = b 15 w 7 := by
  unfold T_br3 T_given T_under
  split
  · split
    · rw [S2_nf (by decide)]
      by_cases hw : w = v
      · subst hw
        rw [S2_eq, upd_ne (by decide), P_way_15 (by decide)]
      · rw [S2_ni hw, P_way_15 (by decide)]
    · rw [S2_nf (by decide), T_wait_off (by decide) (by decide), P_way_15 (by decide)]
  · rw [S2_nf (by decide), T_wait_off (by decide) (by decide)]
theorem T_br3_30 {b : St} {v f : Nat} : T_br3 b v f 30 = b 30 := by
  funext j
  unfold T_br3 T_given T_under
  split
  · split
    · rw [S2_nf (by decide), S2_nf (by decide), P_way_off (by decide) (by decide)]
    · rw [S2_nf (by decide), T_wait_off (by decide) (by decide), P_way_off (by decide) (by decide)]
  · rw [S2_nf (by decide), T_wait_off (by decide) (by decide)]
/-- a vehicle that comes has gone over no link, as it had not -/
theorem T_bring_TR {tr : Option Nat} {a : St} {f : Nat} {τ : Tau} {M : Nat} (h : Wf M a) (hv : (a 0 0 4).toInt < 200) (ht : TRab tr a τ) : TRab tr (T_bring a f) τ := fun hn => by
  have hv2 : (a 0 0 4).toNatClampNeg < 200 := m_ltI h.1.2.2.2.1 hv
  have e7 : ∀ w, T_bring a f 15 w 7 = a 15 w 7 := fun w => by
    unfold T_bring T_cnt
    rw [S2_nf (by decide), T_br3_15]
    unfold T_br2 T_br1 V_come
    rw [S2_nf (by decide)]
    by_cases hw : w = (a 0 0 4).toNatClampNeg
    · subst hw
      rw [S2_eq]
      exact ((ht hn).1 _ hv2 (Nat.le_refl _)).symm
    · rw [S2_ni hw]
  have e30 : T_bring a f 30 = a 30 := by
    unfold T_bring T_cnt
    funext j
    rw [S2_nf (by decide), T_br3_30]
    unfold T_br2 T_br1 V_come
    rw [S2_nf (by decide), S2_nf (by decide)]
  have e4 : (T_bring a f 0 0 4).toNatClampNeg = (a 0 0 4).toNatClampNeg + 1 := by
    unfold T_bring T_cnt
    rw [S2_eq, upd_eq, T_br3_00 (by decide), T_br12_00]
    have h1 := m_succ h.1.2.2.2 hv (by decide)
    have h2 := m_tn h.1.2.2.2.1
    have h3 := m_tn (v := a 0 0 4 + 1) (by have := h.1.2.2.2.1; omega)
    omega
  exact TRab.same ⟨fun w => (e7 w).symm, e30.symm, by omega⟩ ht hn
theorem T_flow_TR {tr : Option Nat} {a : St} {f : Nat} {τ : Tau} {M : Nat} (h : Wf M a) (ht : TRab tr a τ) : TRab tr (T_flow f a) τ := by
  unfold T_flow
  split
  · exact ht
  · split
    · exact ht
    · rename_i hn
      exact T_bring_TR h (m_ge hn) ht
theorem T_flows_TR {tr : Option Nat} {a : St} {τ : Tau} {M : Nat} (h : Wf M a) (ht : TRab tr a τ) : TRab tr (T_flows a) τ := (itN_keepB (N := nFl a) (P := fun b => Wf M b ∧ TRab tr b τ) ⟨h, ht⟩ (fun _ _ hj hb => ⟨T_flow_Wf (Nat.lt_of_lt_of_le hj (in_le h.1.2.2.1)) hb.1, T_flow_TR hb.1 hb.2⟩) _ (Nat.le_refl _)).2
