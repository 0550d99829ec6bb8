/-! flows, signals, costs, the clock: a tick -/
section TICK
variable {nd nl nf ck z f M : Nat} {lv fv : Tb} {a b : St}
theorem cB_mono {t t' : Nat} (h : t ≤ t') : cB fv f t ≤ cB fv f t' := by
  unfold cB
  by_cases h1 : t ≤ (fv f 3).toNatClampNeg
  · rw [if_pos h1]
    exact Nat.zero_le _
  · rw [if_neg h1, if_neg (by omega)]
    have := Nat.div_le_div_right (c := (fv f 4).toNatClampNeg) (show t - (fv f 3).toNatClampNeg - 1 ≤ t' - (fv f 3).toNatClampNeg - 1 by omega)
    omega
theorem cB_step (hT : Tbl nd nl nf lv fv) (hf : f < nf) (hck : ck ≤ 1000) (e : ∀ q, q < 6 → a 14 f q = fv f q) (h : F_brings (a 14 f) (nI ck) ≠ 0) : cB fv f ck + 1 ≤ cB fv f (ck + 1) := by
  obtain ⟨fr, st, pe, mo, k0, k3, k4, k5, k6, k7, k8, k9, k10, k11⟩ := hT.2.2.2.2.2 f hf
  unfold F_brings at h
  rw [e 3 (by decide), e 4 (by decide), e 5 (by decide), k3, k4, k5] at h
  have h1 : ¬ nI ck < nI st := fun hc => h (if_pos hc)
  rw [if_neg h1, if_pos (show (1 : Int32) ≤ nI pe from nI_le (a := 1) k8 (by omega))] at h
  have hst : st ≤ ck := Nat.le_of_not_lt fun hc => h1 (nI_lt hc (by omega))
  rw [pk_sub hst, pk_rem (by omega) (by omega) (by omega), pk_div (by omega) (by omega) (by omega)] at h
  have h2 : nI ((ck - st) % pe) = 0 := Classical.byContradiction fun hc => h (if_neg hc)
  rw [if_pos h2] at h
  have h3 : ¬ nI mo ≤ nI ((ck - st) / pe) := fun hc => h (if_pos hc)
  have hm : (ck - st) % pe = 0 := (nI_eq (b := 0) (Nat.lt_of_le_of_lt (Nat.mod_le _ _) (by omega)) (by decide)).mp h2
  have hd : (ck - st) / pe ≤ ck - st := Nat.div_le_self _ _
  have hq : (ck - st) / pe < mo := Nat.lt_of_not_le fun hc => h3 (nI_le hc (by omega))
  unfold cB
  rw [k3, k4, k5, nI_clamp (by omega), nI_clamp (by omega), nI_clamp (by omega), if_neg (show ¬ ck + 1 ≤ st by omega), show ck + 1 - st - 1 = ck - st by omega]
  by_cases hz : ck ≤ st
  · rw [if_pos hz]
    exact Nat.le_min.mpr ⟨k10, Nat.le_add_left _ _⟩
  · rw [if_neg hz]
    have hdm := Nat.div_add_mod (ck - st) pe
    rw [hm, Nat.add_zero] at hdm
    have hlt : (ck - st - 1) / pe < (ck - st) / pe := by
      rw [Nat.div_lt_iff_lt_mul (by omega), Nat.mul_comm, hdm]
      omega
    generalize (ck - st - 1) / pe = d1 at hlt ⊢
    generalize (ck - st) / pe = d2 at hlt hq ⊢
    omega
theorem Jv_pass (h : Jv nd nl nf lv fv ck f a) : Jv nd nl nf lv fv ck (f + 1) a := by
  obtain ⟨jS, jc, jR, jW, jJ, jV, jC, jF⟩ := h
  refine ⟨jS, jc, jR, jW, jJ, jV, jC, fun i hi => Flw_same (jF i hi) ?_ fun _ _ => rfl⟩
  apply cB_mono
  split <;> split <;> omega
theorem Jv_flow (hT : Tbl nd nl nf lv fv) (h : Jv nd nl nf lv fv ck f a) (hck : ck ≤ 1000) (hf : f < nf) : Jv nd nl nf lv fv ck (f + 1) (T_flow f a) ∧ Mono a (T_flow f a) := by
  unfold T_flow
  by_cases h1 : F_brings (a 14 f) (a 0 0 0) = 0
  · rw [if_pos h1]
    exact ⟨Jv_pass h, Mono.refl a⟩
  · rw [if_neg h1]
    by_cases h2 : 200 ≤ a 0 0 4
    · rw [if_pos h2]
      exact ⟨Jv_pass h, Mono.refl a⟩
    · rw [if_neg h2]
      refine Jv_bring hT h hck hf ?_ (cB_step hT hf hck (fun q hq => h.1.2.2.2.2.1 f hf q hq) (by rw [← h.2.1]; exact h1))
      rw [h.V4] at h2
      exact Nat.lt_of_not_le fun hc => h2 (nI_le (a := 200) hc (by have := h.V200; omega))
theorem Jv_flows (hT : Tbl nd nl nf lv fv) (h : Jv nd nl nf lv fv ck 0 a) (hck : ck ≤ 1000) : Jv nd nl nf lv fv ck nf (T_flows a) ∧ Mono a (T_flows a) := by
  have hnf := hT.2.2.2.1
  have hN : nFl a = nf := by show (a 0 0 3).toNatClampNeg = nf; rw [h.1.2.2.1, nI_clamp (by omega)]
  have : ∀ n, n ≤ nf → Jv nd nl nf lv fv ck n (itN T_flow n a) ∧ Mono a (itN T_flow n a) := by
    intro n
    induction n with
    | zero => exact fun _ => ⟨h, Mono.refl a⟩
    | succ n ih =>
      intro hn
      obtain ⟨h1, h2⟩ := ih (by omega)
      obtain ⟨h3, h4⟩ := Jv_flow hT h1 hck hn
      exact ⟨h3, h2.trans h4⟩
  unfold T_flows
  rw [hN]
  exact this nf (Nat.le_refl _)
theorem Jv_sigs (h : Jv nd nl nf lv fv ck z a) : Jv nd nl nf lv fv ck z (T_sigs a) ∧ Mono a (T_sigs a) := by
  refine Jv_ctl h ?_ (T_sigs_off (by decide)) (fun i q _ => by rw [T_sigs_off (by decide)]) (fun k _ h8 => by rw [T_sigs_off (by decide)]; exact h8) ?_
  · rw [T_sigs_off (by decide)]
  · rintro F (rfl | rfl | rfl | rfl | rfl | rfl | rfl | rfl | rfl | rfl) <;> exact T_sigs_off (by decide)
/-- a link's own numbers changed -/
theorem Jv_two {i : Nat} {x : Nat → Int32} (h : Jv nd nl nf lv fv ck z a) (e : ∀ q, q < 4 ∨ q = 7 ∨ q = 9 ∨ q = 10 → x q = a 2 i q) (e8 : i < nl → lv i 2 ≤ a 2 i 8 → lv i 2 ≤ x 8) : Jv nd nl nf lv fv ck z (S2 a 2 i x) ∧ Mono a (S2 a 2 i x) := by
  have off : ∀ F, F ≠ 2 → S2 a 2 i x F = a F := fun F hF => by funext j; exact S2_nf hF
  refine Jv_ctl h ?_ (off 1 (by decide)) (fun j q hq => ?_) (fun k hk h8 => ?_) ?_
  · rw [off 0 (by decide)]
  · by_cases hj : j = i
    · subst hj
      rw [S2_eq]
      exact e q hq
    · rw [S2_ni hj]
  · by_cases hj : k = i
    · subst hj
      rw [S2_eq]
      exact e8 hk h8
    · rw [S2_ni hj]
      exact h8
  · rintro F (rfl | rfl | rfl | rfl | rfl | rfl | rfl | rfl | rfl | rfl) <;> exact off _ (by decide)
theorem X_slow_k {x : Nat → Int32} {q : Nat} (h5 : q ≠ 5) (h6 : q ≠ 6) : X_slow x q = x q := by
  unfold X_slow
  split
  · split
    · rw [upd_ne h5, upd_ne h6]
    · rfl
  · rw [upd_ne h6]
theorem Jv_slow (h : Jv nd nl nf lv fv ck z a) : Jv nd nl nf lv fv ck z (G_slow a) ∧ Mono a (G_slow a) :=
  itN_keep (P := fun b => Jv nd nl nf lv fv ck z b ∧ Mono a b) ⟨h, Mono.refl a⟩ (fun i b hb => by
    obtain ⟨h1, h2⟩ := Jv_two (i := i) (x := X_slow (b 2 i)) hb.1 (fun q hq => X_slow_k (by omega) (by omega)) (fun _ h8 => by rw [X_slow_k (by decide) (by decide)]; exact h8)
    exact ⟨h1, hb.2.trans h2⟩) _
theorem Jv_cq {tk : Int32} (h : Jv nd nl nf lv fv ck z a) : Jv nd nl nf lv fv ck z (G_cq a tk) ∧ Mono a (G_cq a tk) :=
  itN_keep (P := fun b => Jv nd nl nf lv fv ck z b ∧ Mono a b) ⟨h, Mono.refl a⟩ (fun i b hb => by
    obtain ⟨h1, h2⟩ := Jv_two (i := i) (x := X_cq (b 2 i) (L_q b i tk)) hb.1 (fun q hq => by unfold X_cq; rw [upd_ne (by omega), upd_ne (by omega)]) (fun _ h8 => by unfold X_cq; rw [upd_ne (by decide), upd_ne (by decide)]; exact h8)
    exact ⟨h1, hb.2.trans h2⟩) _
theorem Jv_reck {tk : Int32} (hT : Tbl nd nl nf lv fv) (h : Jv nd nl nf lv fv ck z a) (hw : Wf M a) : Jv nd nl nf lv fv ck z (G_reck a tk) ∧ Mono a (G_reck a tk) := by
  have hnl := hT.2.1
  have hN : nL a = nl := by show (a 1 0 0).toNatClampNeg = nl; rw [h.1.1, nI_clamp (by omega)]
  unfold G_reck
  rw [hN]
  have := itN_keepB (g := L_reck tk) (a := a) (P := fun b => (Jv nd nl nf lv fv ck z b ∧ Mono a b) ∧ Wf M b) (N := nl) ⟨⟨h, Mono.refl a⟩, hw⟩ (fun i b hi hb => by
    obtain ⟨⟨b1, b2⟩, b3⟩ := hb
    refine ⟨?_, L_reck_Wf (by omega) b3⟩
    obtain ⟨m, hm⟩ := b1.2.2.1 i hi
    obtain ⟨ti, t1, t2, t3⟩ := hT.link hi
    obtain ⟨h1, h2⟩ := Jv_two (i := i) (x := upd (b 2 i) 8 (L_cost b i tk)) b1 (fun q hq => upd_ne (by omega)) (fun _ _ => by rw [upd_eq]; exact cost_ge hm ⟨ti, t1, t3⟩ (b1.1.2.2.2.1 i hi 2 (by decide)) (b3.2.1 i (by omega)).2.2.2.1 tk)
    exact ⟨h1, b2.trans h2⟩) nl (Nat.le_refl _)
  exact this.1
theorem Jv_costs (hT : Tbl nd nl nf lv fv) (h : Jv nd nl nf lv fv ck z a) (hw : Wf M a) : Jv nd nl nf lv fv ck z (T_costs a) ∧ Mono a (T_costs a) := by
  unfold T_costs
  split
  · exact ⟨h, Mono.refl a⟩
  · split
    · exact Jv_reck hT h hw
    · exact ⟨h, Mono.refl a⟩
theorem Jv_clock (h : Jv nd nl nf lv fv ck nf a) : Jv nd nl nf lv fv (ck + 1) 0 (T_clock a) ∧ Mono a (T_clock a) := by
  obtain ⟨jS, jc, jR, jW, jJ, jV, jC, jF⟩ := h
  unfold T_clock
  have e0 : ∀ k, k ≠ 0 → S2 a 0 0 (upd (a 0 0) 0 (a 0 0 0 + 1)) 0 0 k = a 0 0 k := fun k hk => by rw [S2_eq, upd_ne hk]
  have e00 : S2 a 0 0 (upd (a 0 0) 0 (a 0 0 0 + 1)) 0 0 0 = nI (ck + 1) := by rw [S2_eq, upd_eq, jc, nI_1]
  have eF : ∀ F, F ≠ 0 → S2 a 0 0 (upd (a 0 0) 0 (a 0 0 0 + 1)) F = a F := fun F hF => by funext i; exact S2_nf hF
  generalize S2 a 0 0 (upd (a 0 0) 0 (a 0 0 0 + 1)) = b at e0 e00 eF ⊢
  have hV : nV b = nV a := by show (b 0 0 4).toNatClampNeg = _; rw [e0 4 (by decide)]
  have b2 := eF 2 (by decide)
  have b3 := eF 3 (by decide)
  have b4 := eF 4 (by decide)
  have b5 := eF 5 (by decide)
  have b6 := eF 6 (by decide)
  have b12 := eF 12 (by decide)
  have b13 := eF 13 (by decide)
  have b14 := eF 14 (by decide)
  have b15 := eF 15 (by decide)
  have b16 := eF 16 (by decide)
  have b30 := eF 30 (by decide)
  refine ⟨⟨Stt_same jS (by rw [eF 1 (by decide)]) (e0 2 (by decide)) (e0 3 (by decide)) (fun k q _ => by rw [b2]) (fun f q _ => by rw [b14]), e00, fun k hk => ?_, fun n hn => ?_, WtJ_same jJ (fun i _ => by rw [b12, b13]; exact ⟨rfl, rfl⟩), fun u hu => Veh_same (jV u (by omega)) (by omega) (by rw [b15]) (by rw [b16]) (by rw [b30]), ?_, fun i hi => ?_⟩, by omega, fun u _ h2 => by rw [b15]; exact h2⟩
  · obtain ⟨m, hm⟩ := jR k hk
    exact ⟨m, Rw_same hm (by omega) (by omega) (by rw [b3]) (by rw [b4]) (by rw [b5]) (by rw [b6]) (by rw [b2]) (fun h8 => by rw [b2]; exact h8) fun u _ h1 h5 => by rw [b15]; exact ⟨h1, h5, rfl⟩⟩
  · obtain ⟨m, hm⟩ := jW n hn
    exact ⟨m, Wt_same hm (by omega) (by rw [b12]) (by rw [b13]) fun j u _ _ _ h3 => by rw [b15]; exact h3⟩
  · have hcn : ∀ s, cN b s (nV a) = cN a s (nV a) := fun s => cN_congr (nV a) fun u _ => by rw [b15]
    obtain ⟨c4, c5, c6, c7, c8, c9, c10, c11⟩ := jC
    unfold Cnt
    rw [hV, e0 4 (by decide), e0 5 (by decide), b14, b12, b3, hcn 0, hcn 1, hcn 2, hcn 3]
    exact ⟨c4, c5, c6, c7, c8, c9, c10, c11⟩
  · have h1 := jF i hi
    rw [if_pos hi] at h1
    rw [if_neg (by omega)]
    exact Flw_same h1 (Nat.le_refl _) fun q _ => by rw [b14]
theorem Jv_tick (hT : Tbl nd nl nf lv fv) (h : Jv nd nl nf lv fv ck 0 a) (hck : ck ≤ 1000) (hw : Wf M a) : Jv nd nl nf lv fv (ck + 1) 0 (T_tick a) ∧ Mono a (T_tick a) := by
  obtain ⟨h1, m1⟩ := Jv_slow h
  obtain ⟨h2, m2⟩ := Jv_costs hT h1 (G_slow_Wf hw)
  obtain ⟨h3, m3⟩ := Jv_flows hT h2 hck
  obtain ⟨h4, m4⟩ := Jv_sigs h3
  obtain ⟨h5, m5⟩ := Jv_links hT h4 hck
  obtain ⟨h6, m6⟩ := Jv_nodes hT h5 hck
  unfold T_tick T_play
  obtain ⟨h7, m7⟩ := Jv_cq (tk := T_nodes (T_links (T_sigs (T_flows (T_costs (G_slow a))))) 0 0 0) h6
  obtain ⟨h8, m8⟩ := Jv_clock h7
  exact ⟨h8, m1.trans (m2.trans (m3.trans (m4.trans (m5.trans (m6.trans (m7.trans m8))))))⟩
theorem Jv_ticks (hT : Tbl nd nl nf lv fv) (h : Jv nd nl nf lv fv ck 0 a) (hM : M < 500000) (hw : Wf M a) : ∀ N, ck + N ≤ 1001 → Jv nd nl nf lv fv (ck + N) 0 (T_ticks N a) ∧ Mono a (T_ticks N a)
  | 0, _ => ⟨h, Mono.refl a⟩
  | N + 1, hN => by
    obtain ⟨h1, h2⟩ := Jv_ticks hT h hM hw N (by omega)
    have h0 : (a 0 0 0).toInt = ck := by rw [h.2.1, nI_toInt (by omega)]
    have h3 := T_ticks_Wf hw (by omega) N (by omega) (by omega)
    obtain ⟨h4, h5⟩ := Jv_tick hT h1 (by omega) h3
    exact ⟨h4, h2.trans h5⟩
theorem Jv_grows (hT : Tbl nd nl nf lv fv) (h : Jv nd nl nf lv fv ck 0 a) (hM : M < 500000) (hw : Wf M a) (i : Nat) : ∀ n, ck + (i + n) ≤ 1001 → Mono (T_ticks i a) (T_ticks (i + n) a)
  | 0, _ => Mono.refl _
  | n + 1, hN => by
    have h0 : (a 0 0 0).toInt = ck := by rw [h.2.1, nI_toInt (by omega)]
    have h1 := Jv_grows hT h hM hw i n (by omega)
    obtain ⟨h2, -⟩ := Jv_ticks hT h hM hw (i + n) (by omega)
    have h3 := T_ticks_Wf hw (by omega) (i + n) (by omega) (by omega)
    exact h1.trans (Jv_tick hT h2 (by omega) h3).2
end TICK
