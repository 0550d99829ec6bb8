/-! a trial begins as the thing itself; the face that the law asks for -/
section CPY
variable {a b c : St} {i v V n f g C M : Nat}
theorem itN_each {g : Nat → St → St} {P : Nat → St → Prop} {c : St} {N : Nat} (h1 : ∀ i c, i < N → P i (g i c)) (h2 : ∀ i j c, i ≠ j → P i c → P i (g j c)) : ∀ n, n ≤ N → ∀ i, i < n → P i (itN g n c)
  | 0, _, i, hi => absurd hi (by omega)
  | n + 1, hn, i, hi => by
    show P i (g n (itN g n c))
    by_cases hin : i = n
    · subst hin
      exact h1 i _ (by omega)
    · exact h2 i n _ hin (itN_each h1 h2 n (by omega) i (by omega))
theorem R_copy_ni {k h : Nat} (hk : k ≠ i) : R_copy f g b a i h k = b h k := by
  unfold R_copy
  rw [S2_ni hk, S2_ni hk]
theorem RowS.copy (hfg : f ≠ g) (hm : ∃ m, m ≤ C ∧ a f i 0 = nI m) : RowS f g C (R_copy f g b a i) a i := by
  refine ⟨hm, ?_, fun j hj => ?_⟩
  · unfold R_copy
    rw [S2_nf hfg, S2_eq, upd_eq]
  · unfold R_copy
    rw [S2_eq, pk_cpy_in (Nat.zero_le _) (by omega), Nat.zero_add, Nat.sub_zero]
theorem X_cp9_c {x y : Nat → Int32} : ∀ k, k < 9 → X_cp9 x y k = y k
  | 0, _ => rfl
  | 1, _ => rfl
  | 2, _ => rfl
  | 3, _ => rfl
  | 4, _ => rfl
  | 5, _ => rfl
  | 6, _ => rfl
  | 7, _ => rfl
  | 8, _ => rfl
  | k + 9, h => absurd h (by omega)
theorem X_cpv_c {x y : Nat → Int32} : ∀ k, k < 12 → X_cpv (X_come x (y 0) (y 1) (y 2) (y 4)) y k = y k
  | 0, _ => rfl
  | 1, _ => rfl
  | 2, _ => rfl
  | 3, _ => rfl
  | 4, _ => rfl
  | 5, _ => rfl
  | 6, _ => rfl
  | 7, _ => rfl
  | 8, _ => rfl
  | 9, _ => rfl
  | 10, _ => rfl
  | 11, _ => rfl
  | k + 12, h => absurd h (by omega)
def PL (a : St) (i : Nat) (c : St) : Prop := (∀ k, k < 9 → c 2 i k = a 2 i k) ∧ RowS 3 4 30 c a i ∧ RowS 5 6 30 c a i
def PN (a : St) (i : Nat) (c : St) : Prop := SigS c a i ∧ RowS 12 13 200 c a i
def PF (a : St) (i : Nat) (c : St) : Prop := ∀ k, k < 6 → c 14 i k = a 14 i k
theorem RowS.at1 {b' : St} (h : RowS f g C b a i) (e1 : b' f i = b f i) (e2 : b' g i = b g i) : RowS f g C b' a i := h.off e1 e2 rfl rfl
theorem PL_set (h3 : ∃ m, m ≤ 30 ∧ a 3 i 0 = nI m) (h5 : ∃ m, m ≤ 30 ∧ a 5 i 0 = nI m) : PL a i (L_copy c a i) := by
  unfold L_copy
  refine ⟨fun k hk => ?_, RowS.at1 (RowS.copy (b := S2 c 2 i (X_cp9 (c 2 i) (a 2 i))) (by decide) h3) (R_copy_off (by decide) (by decide)) (R_copy_off (by decide) (by decide)), RowS.copy (by decide) h5⟩
  rw [R_copy_off (by decide) (by decide), R_copy_off (by decide) (by decide), S2_eq]
  exact X_cp9_c k hk
theorem L_copy_ni {k h : Nat} (hk : k ≠ i) : L_copy b a i h k = b h k := by
  unfold L_copy
  rw [R_copy_ni hk, R_copy_ni hk, S2_ni hk]
theorem S_copy_ni {k h : Nat} (hk : k ≠ i) : S_copy b a i h k = b h k := by
  unfold S_copy
  rw [S2_ni hk, S2_ni hk, S2_ni hk, S2_ni hk]
theorem PL_of {c' : St} (h : PL a i c) (e : ∀ F, F = 2 ∨ F = 3 ∨ F = 4 ∨ F = 5 ∨ F = 6 → c' F i = c F i) : PL a i c' := by
  obtain ⟨h1, h2, h3⟩ := h
  refine ⟨fun k hk => by rw [e 2 (by decide)]; exact h1 k hk, h2.at1 (e 3 (by decide)) (e 4 (by decide)), h3.at1 (e 5 (by decide)) (e 6 (by decide))⟩
theorem PN_set (h8 : in_ (a 8 i 0) 4) (h12 : ∃ m, m ≤ 200 ∧ a 12 i 0 = nI m) : PN a i (T_cpn a i c) := by
  unfold T_cpn
  refine ⟨⟨h8, fun k hk => ?_, fun j hj => ?_⟩, RowS.copy (by decide) h12⟩
  · rw [R_copy_off (by decide) (by decide)]
    unfold S_copy
    rw [S2_eq]
    match k, hk with
    | 0, _ => rfl
    | 1, _ => rfl
    | 2, _ => rfl
  · rw [R_copy_off (by decide) (by decide), R_copy_off (by decide) (by decide), R_copy_off (by decide) (by decide)]
    unfold S_copy
    rw [S2_nf (show 9 ≠ 8 by decide), S2_nf (show 9 ≠ 11 by decide), S2_nf (show 9 ≠ 10 by decide), S2_eq, S2_nf (show 10 ≠ 8 by decide), S2_nf (show 10 ≠ 11 by decide), S2_eq, S2_nf (show 11 ≠ 8 by decide), S2_eq, pk_cpy_in (Nat.zero_le _) (by omega), pk_cpy_in (Nat.zero_le _) (by omega), pk_cpy_in (Nat.zero_le _) (by omega), Nat.zero_add, Nat.sub_zero]
    exact ⟨rfl, rfl, rfl⟩
theorem PN_of {c' : St} (h : PN a i c) (e : ∀ F, F = 8 ∨ F = 9 ∨ F = 10 ∨ F = 11 ∨ F = 12 ∨ F = 13 → c' F i = c F i) : PN a i c' := by
  obtain ⟨⟨h1, h2, h3⟩, h4⟩ := h
  refine ⟨⟨h1, fun k hk => by rw [e 8 (by decide)]; exact h2 k hk, fun j hj => by rw [e 9 (by decide), e 10 (by decide), e 11 (by decide)]; exact h3 j hj⟩, h4.at1 (e 12 (by decide)) (e 13 (by decide))⟩
theorem T_cpn_ni {k h : Nat} (hk : k ≠ i) : T_cpn a i c h k = c h k := by
  unfold T_cpn
  rw [R_copy_ni hk, S_copy_ni hk]
theorem VS_set (h : ∃ w, w ≤ 11 ∧ a 15 v 11 = nI w) : VehS (T_cpv a v c) a v := by
  obtain ⟨w, w1, w2⟩ := h
  refine ⟨⟨w, w1, w2⟩, fun k hk => ?_, fun j hj => ?_⟩
  · unfold T_cpv V_copy V_cop1 V_come
    rw [S2_nf (show 15 ≠ 16 by decide), S2_eq, S2_eq]
    exact X_cpv_c k hk
  · rw [w2, nI_clamp (by omega)] at hj
    unfold T_cpv V_copy V_cop1
    rw [S2_eq, pk_cpy_in (Nat.zero_le _) (by omega), Nat.zero_add, Nat.sub_zero]
theorem T_cpv_ni {k h : Nat} (hk : k ≠ i) : T_cpv a i c h k = c h k := by
  unfold T_cpv V_copy V_cop1 V_come
  rw [S2_ni hk, S2_ni hk, S2_ni hk]
theorem PF_set : PF a i (T_cpf a i c) := by
  intro k hk
  unfold T_cpf F_tell
  rw [S2_eq]
  match k, hk with
  | 0, _ => rfl
  | 1, _ => rfl
  | 2, _ => rfl
  | 3, _ => rfl
  | 4, _ => rfl
  | 5, _ => rfl
theorem T_cpf_ni {k h : Nat} (hk : k ≠ i) : T_cpf a i c h k = c h k := by
  unfold T_cpf F_tell
  rw [S2_ni hk]
theorem in_ex {x : Int32} {n : Nat} (h : in_ x n) : ∃ m, m ≤ n ∧ x = nI m := ⟨x.toNatClampNeg, in_le h, in_nI h⟩
theorem Sim_copy (hw : Wf M a) (h2 : ∀ i, i < nL a → (a 2 i 1).toNatClampNeg < nN a) (h14 : ∀ i, i < nFl a → (a 14 i 0).toNatClampNeg < nN a) : Sim (T_copy b a) a := by
  obtain ⟨⟨w1, w2, w3, w4⟩, wl, wn, wf, wv⟩ := hw
  have hL := in_le w1
  have hN := in_le w2
  have hF := in_le w3
  have hV := in_le w4
  unfold T_copy
  have c0z : ∀ k, k < 6 → T_cp0 b a 0 0 k = a 0 0 k := fun k hk => T_cp0_0 hk
  generalize T_cp0 b a = c0 at c0z ⊢
  -- the links
  have g1 : G_copy c0 a 0 = c0 0 := G_copy_0
  have g2 : G_copy c0 a 1 0 0 = a 1 0 0 := itN_keep (P := fun c => c 1 0 0 = a 1 0 0) (by show S2 c0 1 0 (upd (c0 1 0) 0 (a 1 0 0)) 1 0 0 = a 1 0 0; rw [S2_eq, upd_eq]) (fun i c h => by rw [L_copy_off (by decide) (by decide) (by decide) (by decide) (by decide)]; exact h) _
  have g3 : ∀ i, i < nL a → PL a i (G_copy c0 a) := itN_each (P := PL a) (N := nL a) (fun i c hi => PL_set (in_ex (wl i (Nat.lt_of_lt_of_le hi hL)).2.2.2.2.1) (in_ex (wl i (Nat.lt_of_lt_of_le hi hL)).2.2.2.2.2)) (fun i j c hij hp => PL_of hp fun F _ => L_copy_ni hij) _ (Nat.le_refl _)
  generalize G_copy c0 a = c1 at g1 g2 g3 ⊢
  -- the nodes
  have k0 : ∀ F, F ≠ 8 → F ≠ 9 → F ≠ 10 → F ≠ 11 → F ≠ 12 → F ≠ 13 → itN (T_cpn a) (nN a) c1 F = c1 F := fun F f8 f9 f10 f11 f12 f13 => itN_keep (P := fun c => c F = c1 F) rfl (fun i c h => by
    rw [← h]
    funext j
    unfold T_cpn
    rw [R_copy_off f12 f13, S_copy_off f8 f9 f10 f11]) _
  have k1 : ∀ i, i < nN a → PN a i (itN (T_cpn a) (nN a) c1) := itN_each (P := PN a) (N := nN a) (fun i c hi => PN_set (wn i (Nat.lt_of_lt_of_le hi hN)).1 (in_ex (wn i (Nat.lt_of_lt_of_le hi hN)).2)) (fun i j c hij hp => PN_of hp fun F _ => T_cpn_ni hij) _ (Nat.le_refl _)
  generalize itN (T_cpn a) (nN a) c1 = c2 at k0 k1 ⊢
  -- the flows
  have m0 : ∀ F, F ≠ 14 → itN (T_cpf a) (nFl a) c2 F = c2 F := fun F f14 => itN_keep (P := fun c => c F = c2 F) rfl (fun i c h => by
    rw [← h]
    funext j
    unfold T_cpf F_tell
    rw [S2_nf f14]) _
  have m1 : ∀ i, i < nFl a → PF a i (itN (T_cpf a) (nFl a) c2) := itN_each (P := PF a) (N := nFl a) (fun i c hi => PF_set) (fun i j c hij hp k hk => by rw [T_cpf_ni hij]; exact hp k hk) _ (Nat.le_refl _)
  generalize itN (T_cpf a) (nFl a) c2 = c3 at m0 m1 ⊢
  -- the vehicles
  have n0 : ∀ F, F ≠ 15 → F ≠ 16 → itN (T_cpv a) (nV a) c3 F = c3 F := fun F f15 f16 => itN_keep (P := fun c => c F = c3 F) rfl (fun i c h => by
    rw [← h]
    funext j
    exact V_copy_off f15 f16) _
  have n1 : ∀ i, i < nV a → VehS (itN (T_cpv a) (nV a) c3) a i := itN_each (P := fun i c => VehS c a i) (N := nV a) (fun i c hi => VS_set (in_ex (wv i (Nat.lt_of_lt_of_le hi hV)).1)) (fun i j c hij hp => hp.keep (T_cpv_ni hij) (T_cpv_ni hij) rfl rfl) _ (Nat.le_refl _)
  generalize itN (T_cpv a) (nV a) c3 = c4 at n0 n1 ⊢
  have q2 : ∀ F, F ≠ 15 → F ≠ 16 → F ≠ 14 → c4 F = c2 F := fun F f1 f2 f3 => (n0 F f1 f2).trans (m0 F f3)
  have q1 : ∀ F, F < 8 → c4 F = c1 F := fun F hF => (q2 F (by omega) (by omega) (by omega)).trans (k0 F (by omega) (by omega) (by omega) (by omega) (by omega) (by omega))
  refine ⟨fun k hk => by rw [q1 0 (by decide), g1]; exact c0z k hk, in_ex w4, by rw [q1 1 (by decide)]; exact g2, fun i hi => ⟨h2 i hi, ?_⟩, fun i hi => ?_, fun i hi => ?_, fun i hi => ?_, fun i hi => ?_, fun i hi => ⟨h14 i hi, ?_⟩, n1⟩
  · rw [q1 2 (by decide)]
    exact (g3 i hi).1
  · exact (g3 i hi).2.1.at1 (by rw [q1 3 (by decide)]) (by rw [q1 4 (by decide)])
  · exact (g3 i hi).2.2.at1 (by rw [q1 5 (by decide)]) (by rw [q1 6 (by decide)])
  · exact (PN_of (c' := c4) (k1 i hi) fun F hF => by rw [q2 F (by omega) (by omega) (by omega)]).1
  · exact (PN_of (c' := c4) (k1 i hi) fun F hF => by rw [q2 F (by omega) (by omega) (by omega)]).2
  · rw [n0 14 (by decide) (by decide)]
    exact m1 i hi
end CPY
section FACE
variable {nd nl nf ck M v : Nat} {lv fv : Tb} {a b : St}
theorem Sim_begin (hT : Tbl nd nl nf lv fv) (h : Jv nd nl nf lv fv ck 0 a) (hw : Wf M a) : Sim (T_copy b a) a := by
  have hnl := hT.2.1
  have hnd := hT.2.2.1
  have hnf := hT.2.2.2.1
  have eL : nL a = nl := by show (a 1 0 0).toNatClampNeg = nl; rw [h.1.1, nI_clamp (by omega)]
  have eN : nN a = nd := by show (a 0 0 2).toNatClampNeg = nd; rw [h.1.2.1, nI_clamp (by omega)]
  have eF : nFl a = nf := by show (a 0 0 3).toNatClampNeg = nf; rw [h.1.2.2.1, nI_clamp (by omega)]
  refine Sim_copy hw (fun i hi => ?_) fun i hi => ?_
  · rw [eL] at hi
    obtain ⟨fr, to, ti, ro, e0, e1, e2, e3, e4, e5, -⟩ := hT.2.2.2.2.1 i hi
    rw [h.1.2.2.2.1 i hi 1 (by decide), e1, eN, nI_clamp (by omega)]
    exact e5
  · rw [eF] at hi
    obtain ⟨fr, st, pe, mo, k0, k3, k4, k5, k6, -⟩ := hT.2.2.2.2.2 i hi
    rw [h.1.2.2.2.2.1 i hi 0 (by decide), k0, eN, nI_clamp (by omega)]
    exact k6
theorem Sim_ticks (hT : Tbl nd nl nf lv fv) (h : Jv nd nl nf lv fv ck 0 a) (hM : M < 500000) (hw : Wf M a) (hs : Sim b a) : ∀ N, ck + N ≤ 1001 → Sim (T_ticks N b) (T_ticks N a)
  | 0, _ => hs
  | N + 1, hN => by
    have ih := Sim_ticks hT h hM hw hs N (by omega)
    obtain ⟨h1, -⟩ := Jv_ticks hT h hM hw N (by omega)
    exact ih.tick h1.2.1 (by omega) h1.1.1 hT.1 hT.2.1
theorem m1_ne {n : Nat} (h : n < 2 ^ 31) : ¬ (-1 : Int32) = nI n := fun e => nI_nneg h (by rw [← e]; decide)
theorem T_ticks_s (k : Nat) : T_ticks (k + 1) b = T_tick (T_ticks k b) := rfl
theorem E_scan_z (k : Nat) : E_scan 0 k b = -1 := rfl
theorem E_scan_s (d k : Nat) : E_scan (d + 1) k b = if T_tick b 0 0 5 = 0 then nI k else E_scan d (k + 1) (T_tick b) := rfl
theorem A_scan_z (k : Nat) : A_scan v 0 k b = -1 := rfl
theorem A_scan_s (d k : Nat) : A_scan v (d + 1) k b = if T_tick b 15 v 3 = 2 then nI k else A_scan v d (k + 1) (T_tick b) := rfl
theorem E_at (d : Nat) : ∀ k, k + d < 1000000 → E_scan d (k + 1) (T_ticks k b) = nI (k + d) → T_ticks (k + d) b 0 0 5 = 0 := by
  induction d with
  | zero =>
    intro k hk h
    rw [E_scan_z] at h
    exact absurd h (m1_ne (by omega))
  | succ d ih =>
    intro k hk h
    rw [E_scan_s, ← T_ticks_s] at h
    rw [show k + (d + 1) = k + 1 + d by omega] at h ⊢
    by_cases hc : T_ticks (k + 1) b 0 0 5 = 0
    · rw [if_pos hc] at h
      have h9 := (nI_eq (by omega) (by omega)).mp h
      have hd : d = 0 := by omega
      subst hd
      exact hc
    · rw [if_neg hc] at h
      exact ih (k + 1) (by omega) h
theorem E_no (d : Nat) : ∀ k, k + d < 1000000 → 1 ≤ d → T_ticks (k + d) b 0 0 5 = 0 → ¬ E_scan d (k + 1) (T_ticks k b) < 0 := by
  induction d with
  | zero => exact fun k hk h => absurd h (by decide)
  | succ d ih =>
    intro k hk _ h0
    rw [E_scan_s, ← T_ticks_s]
    rw [show k + (d + 1) = k + 1 + d by omega] at h0
    by_cases hc : T_ticks (k + 1) b 0 0 5 = 0
    · rw [if_pos hc]
      exact nI_nneg (by omega)
    · rw [if_neg hc]
      by_cases hd : d = 0
      · subst hd
        exact absurd h0 hc
      · exact ih (k + 1) (by omega) (by omega) h0
theorem A_at (d : Nat) : ∀ k, k + d < 1000000 → ¬ A_scan v d (k + 1) (T_ticks k b) < 0 → ∃ i, i ≤ k + d ∧ T_ticks i b 15 v 3 = 2 := by
  induction d with
  | zero =>
    intro k hk h
    rw [A_scan_z] at h
    exact absurd (by decide) h
  | succ d ih =>
    intro k hk h
    rw [A_scan_s, ← T_ticks_s] at h
    by_cases hc : T_ticks (k + 1) b 15 v 3 = 2
    · exact ⟨k + 1, by omega, hc⟩
    · rw [if_neg hc] at h
      obtain ⟨i, h2, h3⟩ := ih (k + 1) (by omega) h
      exact ⟨i, by omega, h3⟩
theorem A_no (d : Nat) : ∀ k, k + d < 1000000 → 1 ≤ d → T_ticks (k + d) b 15 v 3 = 2 → ¬ A_scan v d (k + 1) (T_ticks k b) < 0 := by
  induction d with
  | zero => exact fun k hk h => absurd h (by decide)
  | succ d ih =>
    intro k hk _ h0
    rw [A_scan_s, ← T_ticks_s]
    rw [show k + (d + 1) = k + 1 + d by omega] at h0
    by_cases hc : T_ticks (k + 1) b 15 v 3 = 2
    · rw [if_pos hc]
      exact nI_nneg (by omega)
    · rw [if_neg hc]
      by_cases hd : d = 0
      · subst hd
        exact absurd h0 hc
      · exact ih (k + 1) (by omega) (by omega) h0
theorem T_ticks_z : T_ticks 0 b = b := rfl
theorem E_at0 {N : Nat} (hN : N < 1000000) (h : E_scan N 1 b = nI N) : T_ticks N b 0 0 5 = 0 := by
  have h2 := E_at (b := b) N 0 (by omega)
  simp only [Nat.zero_add, T_ticks_z] at h2
  exact h2 h
theorem E_no0 {N : Nat} (hN : N < 1000000) (h1 : 1 ≤ N) (h : T_ticks N b 0 0 5 = 0) : ¬ E_scan N 1 b < 0 := by
  have h2 := E_no (b := b) N 0 (by omega) h1
  simp only [Nat.zero_add, T_ticks_z] at h2
  exact h2 h
theorem A_at0 {N : Nat} (hN : N < 1000000) (h : ¬ A_scan v N 1 b < 0) : ∃ i, i ≤ N ∧ T_ticks i b 15 v 3 = 2 := by
  have h2 := A_at (v := v) (b := b) N 0 (by omega)
  simp only [Nat.zero_add, T_ticks_z] at h2
  exact h2 h
theorem A_no0 {N : Nat} (hN : N < 1000000) (h1 : 1 ≤ N) (h : T_ticks N b 15 v 3 = 2) : ¬ A_scan v N 1 b < 0 := by
  have h2 := A_no (v := v) (b := b) N 0 (by omega) h1
  simp only [Nat.zero_add, T_ticks_z] at h2
  exact h2 h
theorem Jv.under (hT : Tbl nd nl nf lv fv) (h : Jv nd nl nf lv fv ck 0 a) : onE a nl + wtE a nd = a 0 0 5 := by
  obtain ⟨e1, e2⟩ := h.onwt hT
  rw [e1, e2, nI_add, h.2.2.2.2.2.2.1.2.2.2.2.1, Nat.add_comm]
end FACE
def InvC : IPr := fun nd nl nf lv fv ck a => Tbl nd nl nf lv fv ∧ Jv nd nl nf lv fv ck 0 a ∧ ck ≤ 1000
theorem num_face : NumFace InvC := by
  refine ⟨fun a nd nl lv pl nf fv h1 hB => ?_, fun nd nl nf lv fv ck a hI => ?_⟩
  · obtain ⟨k1, k2⟩ := Jv_start h1 hB
    exact ⟨k1, k2, by omega⟩
  · obtain ⟨hT, hJ, hck⟩ := hI
    refine ⟨fun k bo _ hb => ⟨hT, Jv_shut hJ hb, hck⟩, fun k ra tk _ _ _ _ => ⟨hT, Jv_uslow hJ, hck⟩, fun n _ _ => ⟨hT, Jv_refresh hJ, hck⟩, fun N M _ hN hM hw => ?_, Jv_chk hT hJ (by omega), fun N M b hN1 hN60 hN hM hw hwb => ?_, fun N M b v hN1 hN60 hN hM hw hwb hv => ?_⟩
    · obtain ⟨h1, h2⟩ := Jv_ticks hT hJ (by omega) hw N (by omega)
      exact ⟨⟨hT, h1, hN⟩, h2.1⟩
    · have hs := Sim_ticks hT hJ (by omega) hw (Sim_begin (b := b) hT hJ hw) N (by omega)
      obtain ⟨h1, -⟩ := Jv_ticks hT hJ (by omega) hw N (by omega)
      rw [h1.under hT]
      have e5 : T_ticks N (T_copy b a) 0 0 5 = T_ticks N a 0 0 5 := hs.z (by decide)
      unfold eIn
      by_cases hz : a 0 0 5 = 0
      · rw [if_pos hz]
        refine ⟨fun h9 => ?_, fun _ => by decide⟩
        have := (nI_eq (a := 0) (by omega) (by omega)).mp h9
        omega
      · rw [if_neg hz, ← e5]
        exact ⟨fun h9 => E_at0 (by omega) h9, fun h9 => E_no0 (by omega) hN1 h9⟩
    · have hsb := Sim_begin (b := b) hT hJ hw
      have e3 : ∀ i, i ≤ N → T_ticks i (T_copy b a) 15 v 3 = T_ticks i a 15 v 3 := fun i hi => by
        have hs := Sim_ticks hT hJ (by omega) hw hsb i (by omega)
        obtain ⟨-, h2⟩ := Jv_ticks hT hJ (by omega) hw i (by omega)
        exact (hs.ve (Nat.lt_of_lt_of_le hv h2.1)).2.1 3 (by decide)
      unfold aIn
      by_cases hz : a 15 v 3 = 2
      · rw [if_pos hz]
        obtain ⟨-, h2⟩ := Jv_ticks hT hJ (by omega) hw N (by omega)
        exact ⟨fun _ => h2.2 v hv hz, fun _ => by decide⟩
      · rw [if_neg hz]
        refine ⟨fun h9 => ?_, fun h9 => ?_⟩
        · obtain ⟨i, i1, i2⟩ := A_at0 (by omega) h9
          rw [e3 i i1] at i2
          obtain ⟨-, h2⟩ := Jv_ticks hT hJ (by omega) hw i (by omega)
          have h3 := Jv_grows hT hJ (by omega) hw i (N - i) (by omega)
          rw [show i + (N - i) = N by omega] at h3
          exact h3.2 v (Nat.lt_of_lt_of_le hv h2.1) i2
        · exact A_no0 (by omega) hN1 ((e3 N (Nat.le_refl _)).trans h9)
