/-! arriving; those who wait; counts -/
def EArr (a b : St) (v f : Nat) : Prop := b 15 v = X_arr (a 15 v) (a 0 0 0) ∧ (∀ u, u ≠ v → b 15 u = a 15 u) ∧ b 0 0 = upd (a 0 0) 5 (a 0 0 5 - 1) ∧ b 14 f = X_trip (a 14 f) (b 15 v 9) (b 15 v 10) ∧ (∀ i, i ≠ f → b 14 i = a 14 i) ∧ ∀ F, F ≠ 0 → F ≠ 14 → F ≠ 15 → b F = a F
theorem earr {a : St} {v f nf : Nat} (hf : a 15 v 0 = nI f) (h3 : a 0 0 3 = nI nf) (hlt : f < nf) (hn : nf ≤ 10) : EArr a (T_arrive a v) v f := by
  unfold T_arrive T_arr2 T_arr1 V_arr
  generalize hX : X_arr (a 15 v) (a 0 0 0) = X
  have hX0 : X 0 = nI f := by rw [← hX]; simp [X_arr, upd, hf]
  have c0 : S2 (S2 a 15 v X) 0 0 (upd (S2 a 15 v X 0 0) 5 (S2 a 15 v X 0 0 5 - 1)) 15 v 0 = nI f := by rw [S2_nf (by decide), S2_eq, hX0]
  have c3 : S2 (S2 a 15 v X) 0 0 (upd (S2 a 15 v X 0 0) 5 (S2 a 15 v X 0 0 5 - 1)) 0 0 3 = nI nf := by rw [S2_eq, upd_ne (by decide), S2_nf (by decide), h3]
  rw [c0, c3, if_neg (nI_nneg (by omega)), if_neg (nI_ge hlt (by omega)), nI_clamp (by omega)]
  unfold F_trip
  refine ⟨?_, fun u hu => ?_, ?_, ?_, fun i hi => ?_, fun F h0 h14 h15 => ?_⟩
  · rw [S2_nf (by decide), S2_nf (by decide), S2_eq]
    exact hX.symm
  · rw [S2_nf (by decide), S2_nf (by decide), S2_ni hu]
  · rw [S2_nf (by decide), S2_eq, S2_nf (by decide)]
  · rw [S2_eq, S2_nf (show 14 ≠ 0 by decide), S2_nf (show 14 ≠ 15 by decide), S2_nf (show 15 ≠ 14 by decide)]
  · rw [S2_ni hi, S2_nf (by decide), S2_nf (by decide)]
  · funext i
    rw [S2_nf h14, S2_nf h0, S2_nf h15]
section WAIT
variable {nd nl nf ck n m v : Nat} {lv : Tb} {a b : St}
theorem Wt_same (h : Wtm a n m) (hv : nV a ≤ nV b) (e12 : b 12 n 0 = a 12 n 0) (e13 : b 13 n = a 13 n) (hu : ∀ j u, j < m → u < nV a → a 13 n j = nI u → a 15 u 3 = 0 → b 15 u 3 = 0) : Wtm b n m := by
  obtain ⟨h1, h2, h3⟩ := h
  refine ⟨h1, e12.trans h2, fun j hj => ?_⟩
  obtain ⟨u, f1, f2, f3⟩ := h3 j hj
  exact ⟨u, by omega, by rw [e13]; exact f2, hu j u hj f1 f2 f3⟩
theorem Wt_drop (h : Wtm a n m) (hJ : WtJ nd a) (hn : n < nd) (hv : nV a ≤ nV b) (h0 : 0 < m) (hh : a 13 n 0 = nI v) (d : Drop 12 13 a b n m) (hu : ∀ u, u < nV a → u ≠ v → a 15 u 3 = 0 → b 15 u 3 = 0) : Wtm b n (m - 1) := by
  obtain ⟨h1, h2, h3⟩ := h
  refine ⟨by omega, d.1, fun j hj => ?_⟩
  obtain ⟨u, f1, f2, f3⟩ := h3 (j + 1) (by omega)
  have huv : u ≠ v := by
    rintro rfl
    have hmc : (a 12 n 0).toNatClampNeg = m := by rw [h2, nI_clamp (by omega)]
    have := (hJ n n hn hn (j + 1) 0 (by omega) (by omega) (f2.trans hh.symm)).2
    omega
  exact ⟨u, by omega, by rw [d.2 j (by omega)]; exact f2, hu u f1 huv f3⟩
/-- who waits elsewhere isn't the one that leaves -/
theorem Wt_other (h : Wtm a n m) (hJ : WtJ nd a) {n' m' : Nat} (hn : n < nd) (hn' : n' < nd) (hne : n ≠ n') (h' : Wtm a n' m') (h0 : 0 < m') (hh : a 13 n' 0 = nI v) : ∀ j, j < m → a 13 n j ≠ nI v := by
  intro j hj h9
  have hmc : (a 12 n 0).toNatClampNeg = m := by rw [h.2.1, nI_clamp (by have := h.1; omega)]
  have hmc' : (a 12 n' 0).toNatClampNeg = m' := by rw [h'.2.1, nI_clamp (by have := h'.1; omega)]
  exact hne (hJ n n' hn hn' j 0 (by omega) (by omega) (h9.trans hh.symm)).1
theorem WtJ_same (hJ : WtJ nd a) (e : ∀ i, i < nd → b 12 i 0 = a 12 i 0 ∧ b 13 i = a 13 i) : WtJ nd b := by
  intro i i' hi hi' j j' hj hj' e9
  rw [(e i hi).1] at hj
  rw [(e i' hi').1] at hj'
  rw [(e i hi).2, (e i' hi').2] at e9
  exact hJ i i' hi hi' j j' hj hj' e9
theorem WtJ_drop (hJ : WtJ nd a) (hm : a 12 n 0 = nI m) (hm2 : m ≤ 200) (h0 : 0 < m) (d : Drop 12 13 a b n m) (e : ∀ i, i ≠ n → b 12 i 0 = a 12 i 0 ∧ b 13 i = a 13 i) : WtJ nd b := by
  have hb : (b 12 n 0).toNatClampNeg = m - 1 := by rw [d.1, nI_clamp (by omega)]
  have ha : (a 12 n 0).toNatClampNeg = m := by rw [hm, nI_clamp (by omega)]
  have sh : ∀ i j, j < (b 12 i 0).toNatClampNeg → ∃ q, q = (if i = n then j + 1 else j) ∧ q < (a 12 i 0).toNatClampNeg ∧ b 13 i j = a 13 i q := by
    intro i j hj
    by_cases hi : i = n
    · subst hi
      rw [if_pos rfl]
      exact ⟨j + 1, rfl, by omega, d.2 j (by omega)⟩
    · rw [if_neg hi]
      rw [(e i hi).1] at hj
      exact ⟨j, rfl, hj, by rw [(e i hi).2]⟩
  intro i i' hi hi' j j' hj hj' e9
  obtain ⟨q, q1, q2, q3⟩ := sh i j hj
  obtain ⟨q', q1', q2', q3'⟩ := sh i' j' hj'
  rw [q3, q3'] at e9
  obtain ⟨e1, e2⟩ := hJ i i' hi hi' q q' q2 q2' e9
  subst e1
  refine ⟨rfl, ?_⟩
  by_cases h9 : i = n
  · rw [if_pos h9] at q1 q1'
    omega
  · rw [if_neg h9] at q1 q1'
    omega
theorem WtJ_grow (hall : ∀ i, i < nd → Wt1 a i) (hJ : WtJ nd a) (hm : a 12 n 0 = nI m) (hm2 : m ≤ 200) (hn : n < nd) (hv : v < 1000) (hV : nV a ≤ v) (g : Grow 12 13 a b n m (nI v)) (e : ∀ i, i ≠ n → b 12 i 0 = a 12 i 0 ∧ b 13 i = a 13 i) : WtJ nd b := by
  have hb : (b 12 n 0).toNatClampNeg = m + 1 := by rw [g.1, nI_clamp (by omega)]
  have ha : (a 12 n 0).toNatClampNeg = m := by rw [hm, nI_clamp (by omega)]
  have sh : ∀ i j, i < nd → j < (b 12 i 0).toNatClampNeg → (i = n ∧ j = m ∧ b 13 i j = nI v) ∨ (j < (a 12 i 0).toNatClampNeg ∧ b 13 i j = a 13 i j ∧ a 13 i j ≠ nI v) := by
    intro i j hi hj
    have hold : ∀ j, j < (a 12 i 0).toNatClampNeg → a 13 i j ≠ nI v := by
      intro j hj h9
      obtain ⟨mi, w1, w2, w3⟩ := hall i hi
      rw [w2, nI_clamp (by omega)] at hj
      obtain ⟨u, f1, f2, -⟩ := w3 j hj
      rw [f2, nI_eq (by omega) (by omega)] at h9
      omega
    by_cases hin : i = n
    · subst hin
      by_cases hjm : j = m
      · subst hjm
        exact Or.inl ⟨rfl, rfl, g.2.2⟩
      · exact Or.inr ⟨by omega, g.2.1 j (by omega), hold j (by omega)⟩
    · rw [(e i hin).1] at hj
      exact Or.inr ⟨hj, by rw [(e i hin).2], hold j hj⟩
  intro i i' hi hi' j j' hj hj' e9
  rcases sh i j hi hj with ⟨p1, p2, p3⟩ | ⟨p1, p2, p3⟩
  · rcases sh i' j' hi' hj' with ⟨r1, r2, r3⟩ | ⟨r1, r2, r3⟩
    · exact ⟨by omega, by omega⟩
    · rw [p3, r2] at e9
      exact absurd e9.symm r3
  · rcases sh i' j' hi' hj' with ⟨r1, r2, r3⟩ | ⟨r1, r2, r3⟩
    · rw [p2, r3] at e9
      exact absurd e9 p3
    · rw [p2, r2] at e9
      exact hJ i i' hi hi' j j' p1 r1 e9
end WAIT
theorem Veh_arr {nl nf ck v : Nat} {lv : Tb} {a b : St} (h : Veh nl nf lv ck a v) (hs : a 15 v 3 = 1) (hend : a 15 v 6 ≤ nI ck) (hck : a 0 0 0 = nI ck) (hck2 : ck < 100000) (e15 : b 15 v = X_arr (a 15 v) (a 0 0 0)) (e16 : b 16 v = a 16 v) (e30 : b 30 v = a 30 v) : Veh nl nf lv ck b v ∧ b 15 v 3 = 2 ∧ ∃ tp dl : Nat, b 15 v 9 = nI tp ∧ b 15 v 10 = nI dl ∧ dl ≤ tp ∧ tp ≤ ck := by
  obtain ⟨s, f, st, g, dr, h1, h2, h3, h4, h5, h6, h7, h8, h9, h10, h11, h12, h13, h14, h15, h16, h17⟩ := h
  have hs1 : s = 1 := (nI_eq (b := 1) (by omega) (by decide)).mp (h1.symm.trans hs)
  obtain ⟨q0, q1, e, q2, q3, q4⟩ := h15 hs1
  rw [q2] at hend
  have hle := (nI_leI (by omega) (by omega)).mp hend
  have x9 : b 15 v 9 = nI (ck - st) := by rw [e15]; show a 0 0 0 - a 15 v 4 = _; rw [hck, h5, pk_sub h6]
  have x10 : b 15 v 10 = nI (ck - st - dr) := by rw [e15]; show a 0 0 0 - a 15 v 4 - a 15 v 8 = _; rw [hck, h5, h8, pk_sub h6, pk_sub (by omega)]
  have xq : ∀ q, q ≠ 3 → q ≠ 5 → q ≠ 6 → q ≠ 9 → q ≠ 10 → b 15 v q = a 15 v q := fun q g3 g5 g6 g7 g8 => by
    rw [e15]
    simp [X_arr, upd, g3, g5, g6, g7, g8]
  have el : ∀ j, lstE lv b v j = lstE lv a v j := fun j => by unfold lstE; rw [e30]
  have x3 : b 15 v 3 = nI 2 := by rw [e15]; rfl
  refine ⟨⟨2, f, st, g, dr, x3, by decide, by rw [xq 0 (by decide) (by decide) (by decide) (by decide) (by decide)]; exact h3, h4, by rw [xq 4 (by decide) (by decide) (by decide) (by decide) (by decide)]; exact h5, h6, by rw [xq 7 (by decide) (by decide) (by decide) (by decide) (by decide)]; exact h7, by rw [xq 8 (by decide) (by decide) (by decide) (by decide) (by decide)]; exact h8, h9, h10, by rw [e30]; exact h11, by rw [e30]; exact h12, by rw [el]; exact h13, fun h => by omega, fun h => by omega, fun _ => ⟨ck - st, x9, by omega, by omega, x10⟩, ?_⟩, x3, ck - st, ck - st - dr, x9, x10, by omega, by omega⟩
  rw [xq 2 (by decide) (by decide) (by decide) (by decide) (by decide), xq 11 (by decide) (by decide) (by decide) (by decide) (by decide), e16, e30]
  exact h17
