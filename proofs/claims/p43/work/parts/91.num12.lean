/-! the start; what is told between the ticks -/
section START
variable {nd nl nf ck z k : Nat} {lv fv : Tb} {a b : St}
def BX (a : St) (nd nl nf : Nat) (lv fv : Tb) : Prop := (∀ k, k < nl → ∃ fr to ti ro : Nat, lv k 0 = nI fr ∧ lv k 1 = nI to ∧ lv k 2 = nI ti ∧ lv k 3 = nI ro ∧ fr < nd ∧ to < nd ∧ fr ≠ to ∧ 1 ≤ ti ∧ ti ≤ 20 ∧ 1 ≤ ro ∧ ro ≤ 30) ∧ (∀ f, f < nf → ∃ fr st pe mo : Nat, fv f 0 = nI fr ∧ fv f 3 = nI st ∧ fv f 4 = nI pe ∧ fv f 5 = nI mo ∧ fr < nd ∧ st ≤ 500 ∧ 1 ≤ pe ∧ pe ≤ 30 ∧ 1 ≤ mo ∧ mo ≤ 40) ∧ (∀ k, k < nl → (∀ q, q < 4 → a 2 k q = lv k q) ∧ a 2 k 8 = lv k 2) ∧ (∀ f, f < nf → ∀ q, q < 6 → a 14 f q = fv f q) ∧ (∀ i, a 2 i 9 = 0 ∧ a 2 i 10 = 0 ∧ a 3 i 0 = 0 ∧ a 5 i 0 = 0 ∧ a 12 i 0 = 0) ∧ ∀ i q, 5 < q → a 14 i q = 0
def B1 : BPr := fun a nd nl lv pl nf fv => B0 a nd nl lv pl nf fv ∧ BX a nd nl nf lv fv
theorem B1_zero : ∀ (lv : Tb) (pl : Nat → Nat) (fv : Tb), (∀ n, pl n = 0) → B1 St0 0 0 lv pl 0 fv := by
  intro lv pl fv h
  refine ⟨B0_zero lv pl fv h, fun k hk => absurd hk (by omega), fun k hk => absurd hk (by omega), fun k hk => absurd hk (by omega), fun k hk => absurd hk (by omega), fun i => ⟨by simp [St0], by simp [St0], by simp [St0], by simp [St0], by simp [St0]⟩, fun i q hq => ?_⟩
  have : q ≠ 4 := by omega
  simp [St0, this]
theorem B1_node : B_node B1 := by
  rintro a nd lv pl fv ⟨h0, h1, h2, h3, h4, h5, h6⟩ h
  refine ⟨B0_node a nd lv pl fv h0 h, fun k hk => absurd hk (by omega), fun k hk => absurd hk (by omega), fun k hk => absurd hk (by omega), fun k hk => absurd hk (by omega), fun i => ?_, fun i q hq => ?_⟩
  · unfold U_node
    rw [S2_nf (by decide), S2_nf (by decide), S2_nf (by decide), S2_nf (by decide)]
    exact h5 i
  · unfold U_node
    rw [S2_nf (by decide)]
    exact h6 i q hq
theorem B1_link : B_link B1 := by
  rintro a nd nl lv pl fv f t ti ro ra ⟨h0, h1, h2, h3, h4, h5, h6⟩ h hf ht hne k1 k2 k3 k4 k5 k6
  have hn : nL a = nl := by show (a 1 0 0).toNatClampNeg = nl; rw [h0.1.2.2.2.2.1, nI_clamp (by omega)]
  refine ⟨B0_link a nd nl lv pl fv f t ti ro ra h0 h hf ht hne k1 k2 k3 k4 k5 k6, fun k hk => ?_, fun k hk => absurd hk (by omega), fun k hk => ?_, fun k hk => absurd hk (by omega), fun i => ?_, fun i q hq => ?_⟩
  · by_cases hkn : k = nl
    · subst hkn
      exact ⟨f, t, ti, ro, by simp [up2, rw5, upd], by simp [up2, rw5, upd], by simp [up2, rw5, upd], by simp [up2, rw5, upd], hf, ht, hne, k1, k2, k3, k4⟩
    · simp only [up2, if_neg hkn]
      exact h1 k (by omega)
  · unfold G_lay G_lay1
    rw [hn, S2_nf (by decide)]
    by_cases hkn : k = nl
    · subst hkn
      rw [S2_eq]
      refine ⟨fun q hq => ?_, by simp [up2, rw5, upd, X_lay]⟩
      have : q = 0 ∨ q = 1 ∨ q = 2 ∨ q = 3 := by omega
      rcases this with rfl | rfl | rfl | rfl <;> simp [up2, rw5, upd, X_lay]
    · rw [S2_ni hkn]
      simp only [up2, if_neg hkn]
      exact h3 k (by omega)
  · unfold G_lay G_lay1
    rw [hn, S2_nf (show 2 ≠ 1 by decide), S2_nf (show 3 ≠ 1 by decide), S2_nf (show 5 ≠ 1 by decide), S2_nf (show 12 ≠ 1 by decide), S2_nf (show 3 ≠ 2 by decide), S2_nf (show 5 ≠ 2 by decide), S2_nf (show 12 ≠ 2 by decide)]
    by_cases hkn : i = nl
    · subst hkn
      rw [S2_eq]
      simp only [X_lay, upd]
      exact h5 i
    · rw [S2_ni hkn]
      exact h5 i
  · unfold G_lay G_lay1
    rw [S2_nf (by decide), S2_nf (by decide)]
    exact h6 i q hq
theorem B1_phase : B_phase B1 := by
  rintro a nd nl lv pl fv n y lea gre ⟨h0, h1, h2, h3, h4, h5, h6⟩ h hy hl k1 k2 k3 k4
  have off : ∀ F i, F ≠ 8 → F ≠ 9 → F ≠ 10 → F ≠ 11 → S_app a n y (nI lea) (nI gre) F i = a F i := fun F i f8 f9 f10 f11 => by
    unfold S_app
    rw [S2_nf f8, S2_nf f11, S2_nf f10, S2_nf f9]
  refine ⟨B0_phase a nd nl lv pl fv n y lea gre h0 h hy hl k1 k2 k3 k4, h1, h2, fun k hk => ?_, fun k hk => absurd hk (by omega), fun i => ?_, fun i q hq => ?_⟩
  · rw [off 2 k (by decide) (by decide) (by decide) (by decide)]
    exact h3 k hk
  · rw [off 2 i (by decide) (by decide) (by decide) (by decide), off 3 i (by decide) (by decide) (by decide) (by decide), off 5 i (by decide) (by decide) (by decide) (by decide), off 12 i (by decide) (by decide) (by decide) (by decide)]
    exact h5 i
  · rw [off 14 i (by decide) (by decide) (by decide) (by decide)]
    exact h6 i q hq
theorem B1_flow : B_flow B1 := by
  rintro a nd nl lv pl nf fv fr to kd st pe mo ⟨h0, h1, h2, h3, h4, h5, h6⟩ h hf ht hne k1 k2 k3 k4 k5 k6
  have hn : nFl a = nf := by show (a 0 0 3).toNatClampNeg = nf; rw [h0.1.2.2.2.2.2.2.1, nI_clamp (by omega)]
  have off : ∀ F i, F ≠ 0 → F ≠ 14 → U_flow a (nI fr) (nI to) (nI kd) (nI st) (nI pe) (nI mo) F i = a F i := fun F i f8 f9 => by
    unfold U_flow F_tell
    rw [S2_nf f8, S2_nf f9]
  refine ⟨B0_flow a nd nl lv pl nf fv fr to kd st pe mo h0 h hf ht hne k1 k2 k3 k4 k5 k6, h1, fun k hk => ?_, fun k hk => ?_, fun k hk q hq => ?_, fun i => ?_, fun i q hq => ?_⟩
  · by_cases hkn : k = nf
    · subst hkn
      exact ⟨fr, st, pe, mo, by simp [up2, rw6, upd], by simp [up2, rw6, upd], by simp [up2, rw6, upd], by simp [up2, rw6, upd], hf, k2, k3, k4, k5, k6⟩
    · simp only [up2, if_neg hkn]
      exact h2 k (by omega)
  · rw [off 2 k (by decide) (by decide)]
    exact h3 k hk
  · unfold U_flow F_tell
    rw [hn, S2_nf (by decide)]
    by_cases hkn : k = nf
    · subst hkn
      rw [S2_eq]
      have : q = 0 ∨ q = 1 ∨ q = 2 ∨ q = 3 ∨ q = 4 ∨ q = 5 := by omega
      rcases this with rfl | rfl | rfl | rfl | rfl | rfl <;> simp [up2, rw6, upd]
    · rw [S2_ni hkn]
      simp only [up2, if_neg hkn]
      exact h4 k (by omega) q hq
  · rw [off 2 i (by decide) (by decide), off 3 i (by decide) (by decide), off 5 i (by decide) (by decide), off 12 i (by decide) (by decide)]
    exact h5 i
  · unfold U_flow F_tell
    rw [hn, S2_nf (by decide)]
    by_cases hkn : i = nf
    · subst hkn
      rw [S2_eq, upd_ne (by omega), upd_ne (by omega), upd_ne (by omega), upd_ne (by omega), upd_ne (by omega), upd_ne (by omega)]
      exact h6 i q hq
    · rw [S2_ni hkn]
      exact h6 i q hq
theorem sN_zero {g : Nat → Nat} : ∀ n, (∀ i, i < n → g i = 0) → sN g n = 0
  | 0, _ => rfl
  | n + 1, e => by
    show sN g n + g n = 0
    rw [sN_zero n (fun i hi => e i (by omega)), e n (by omega)]
theorem Jv_start {pl : Nat → Nat} (h1 : 1 ≤ nl) (h : Bld a nd nl lv pl nf fv) : Tbl nd nl nf lv fv ∧ Jv nd nl nf lv fv 0 0 a := by
  obtain ⟨⟨⟨c0, c1, c2, c3, c4, c5, c6, c7, c8, c9⟩, g2, g3, g4, g5⟩, b1, b2, b3, b4, b5, b6⟩ := h B1 B1_zero B1_node B1_link B1_phase B1_flow
  have hV : nV a = 0 := by show (a 0 0 4).toNatClampNeg = 0; rw [c8]; rfl
  refine ⟨⟨h1, c5, c3, c7, b1, b2⟩, ⟨c4, c2, c6, fun k hk q hq => (b3 k hk).1 q hq, b4, fun i hi => Or.inl (g3 i hi)⟩, c0, fun k hk => ⟨0, ?_⟩, fun n hn => ⟨0, by omega, (b5 n).2.2.2.2, fun j hj => absurd hj (by omega)⟩, fun n n' hn hn' j j' hj => ?_, fun v hv => absurd hv (by omega), ?_, fun f hf => ⟨0, 0, 0, 0, 0, b6 f 6 (by decide), b6 f 7 (by decide), b6 f 8 (by decide), b6 f 9 (by decide), b6 f 10 (by decide), Nat.zero_le _, by omega, by omega, by omega, by omega, fun _ => b6 f 11 (by decide)⟩⟩
  · obtain ⟨fr, to, ti, ro, e0, e1, e2, e3, e4, e5, e6, e7, e8, e9, e10⟩ := b1 k hk
    obtain ⟨q9, q10, q3, q5, -⟩ := b5 k
    exact ⟨ti, ro, e2, e3, e8, e10, q3, q5, Nat.zero_le _, fun j hj => absurd hj (by omega), fun i j hi => absurd hi (by omega), fun j hj => absurd hj (by omega), by rw [q9, q10]; decide, by rw [(b3 k hk).2]; exact Int32.le_refl _⟩
  · rw [(b5 n).2.2.2.2] at hj
    exact absurd hj (Nat.not_lt_zero j)
  · unfold Cnt
    rw [hV]
    refine ⟨c8, by omega, sN_zero nd fun i _ => ?_, sN_zero nl fun i _ => ?_, c9, sN_zero nf fun i _ => ?_, sN_zero nf fun i _ => ?_, sN_zero nf fun i _ => ?_⟩
    · rw [(b5 i).2.2.2.2]; rfl
    · rw [(b5 i).2.2.1]; rfl
    · rw [b6 i 6 (by decide)]; rfl
    · rw [b6 i 7 (by decide)]; rfl
    · rw [b6 i 8 (by decide)]; rfl
theorem Jv_ctl2 (h : Jv nd nl nf lv fv ck z a) (hS : Stt nd nl nf lv fv b) (e0 : ∀ q, q ≠ 1 → b 0 0 q = a 0 0 q) (e2 : ∀ i q, q = 8 ∨ q = 9 ∨ q = 10 → b 2 i q = a 2 i q) (eF : ∀ F, F = 3 ∨ F = 4 ∨ F = 5 ∨ F = 6 ∨ F = 12 ∨ F = 13 ∨ F = 14 ∨ F = 15 ∨ F = 16 ∨ F = 30 → b F = a F) : Jv nd nl nf lv fv ck z b := by
  obtain ⟨jS, jc, jR, jW, jJ, jV, jC, jF⟩ := h
  have hV : nV b = nV a := by show (b 0 0 4).toNatClampNeg = _; rw [e0 4 (by decide)]
  have b3 := eF 3 (by decide)
  have b4 := eF 4 (by decide)
  have b5 := eF 5 (by decide)
  have b6 := eF 6 (by decide)
  have b12 := eF 12 (by decide)
  have b13 := eF 13 (by decide)
  have b14 := eF 14 (by decide)
  have b15 := eF 15 (by decide)
  have b16 := eF 16 (by decide)
  have b30 := eF 30 (by decide)
  refine ⟨hS, by rw [e0 0 (by decide)]; exact jc, fun k hk => ?_, fun n hn => ?_, WtJ_same jJ (fun i _ => by rw [b12, b13]; exact ⟨rfl, rfl⟩), fun u hu => Veh_same (jV u (by omega)) (Nat.le_refl _) (by rw [b15]) (by rw [b16]) (by rw [b30]), ?_, fun f hf => Flw_same (jF f hf) (Nat.le_refl _) fun q _ => by rw [b14]⟩
  · obtain ⟨m, hm⟩ := jR k hk
    exact ⟨m, Rw_same hm (Nat.le_refl _) (by omega) (by rw [b3]) (by rw [b4]) (by rw [b5]) (by rw [b6]) (by rw [e2 k 9 (by omega), e2 k 10 (by omega)]) (fun h8 => by rw [e2 k 8 (by omega)]; exact h8) fun u _ h1 h5 => by rw [b15]; exact ⟨h1, h5, rfl⟩⟩
  · obtain ⟨m, hm⟩ := jW n hn
    exact ⟨m, Wt_same hm (by omega) (by rw [b12]) (by rw [b13]) fun j u _ _ _ h3 => by rw [b15]; exact h3⟩
  · have hcn : ∀ s, cN b s (nV a) = cN a s (nV a) := fun s => cN_congr (nV a) fun u _ => by rw [b15]
    obtain ⟨c4, c5, c6, c7, c8, c9, c10, c11⟩ := jC
    unfold Cnt
    rw [hV, e0 4 (by decide), e0 5 (by decide), b14, b12, b3, hcn 0, hcn 1, hcn 2, hcn 3]
    exact ⟨c4, c5, c6, c7, c8, c9, c10, c11⟩
theorem Jv_shut {bo : Int32} (h : Jv nd nl nf lv fv ck z a) (hb : bo = 0 ∨ bo = 1) : Jv nd nl nf lv fv ck z (U_shut a k bo) := by
  unfold U_shut
  split
  · exact h
  · have off : ∀ F, F ≠ 2 → S2 a 2 k (upd (a 2 k) 7 bo) F = a F := fun F hF => by funext j; exact S2_nf hF
    have e2 : ∀ i q, q ≠ 7 → S2 a 2 k (upd (a 2 k) 7 bo) 2 i q = a 2 i q := fun i q hq => by
      by_cases hj : i = k
      · subst hj
        rw [S2_eq, upd_ne hq]
      · rw [S2_ni hj]
    obtain ⟨s1, s2, s3, s4, s5, s6⟩ := h.1
    refine Jv_ctl2 h ⟨by rw [off 1 (by decide)]; exact s1, by rw [off 0 (by decide)]; exact s2, by rw [off 0 (by decide)]; exact s3, fun i hi q hq => by rw [e2 i q (by omega)]; exact s4 i hi q hq, fun f hf q hq => by rw [off 14 (by decide)]; exact s5 f hf q hq, fun i hi => ?_⟩ (fun q _ => by rw [off 0 (by decide)]) (fun i q hq => e2 i q (by omega)) ?_
    · by_cases hj : i = k
      · subst hj
        rw [S2_eq, upd_eq]
        exact hb
      · rw [S2_ni hj]
        exact s6 i hi
    · rintro F (rfl | rfl | rfl | rfl | rfl | rfl | rfl | rfl | rfl | rfl) <;> exact off _ (by decide)
theorem Jv_refresh {n : Int32} (h : Jv nd nl nf lv fv ck z a) : Jv nd nl nf lv fv ck z (U_refresh a n) := by
  unfold U_refresh
  have off : ∀ F, F ≠ 0 → S2 a 0 0 (upd (a 0 0) 1 n) F = a F := fun F hF => by funext j; exact S2_nf hF
  have e0 : ∀ q, q ≠ 1 → S2 a 0 0 (upd (a 0 0) 1 n) 0 0 q = a 0 0 q := fun q hq => by rw [S2_eq, upd_ne hq]
  refine Jv_ctl2 h (Stt_same h.1 (by rw [off 1 (by decide)]) (e0 2 (by decide)) (e0 3 (by decide)) (fun k q _ => by rw [off 2 (by decide)]) (fun f q _ => by rw [off 14 (by decide)])) e0 (fun i q _ => by rw [off 2 (by decide)]) ?_
  rintro F (rfl | rfl | rfl | rfl | rfl | rfl | rfl | rfl | rfl | rfl) <;> exact off _ (by decide)
theorem Jv_uslow {ra tk : Int32} (h : Jv nd nl nf lv fv ck z a) : Jv nd nl nf lv fv ck z (U_slow a k ra tk) :=
  (Jv_two (i := k) (x := upd (upd (a 2 k) 5 ra) 6 tk) h (fun q hq => by rw [upd_ne (by omega), upd_ne (by omega)]) (fun _ h8 => by rw [upd_ne (by decide), upd_ne (by decide)]; exact h8)).1
end START
