/-! a whole tick: the clock and what stays; within bounds -/
theorem T_arr2_0 {b : St} {v j k : Nat} : T_arr2 b v 0 j k = b 0 j k := by
  unfold T_arr2
  split
  · rfl
  · split
    · rfl
    · unfold F_trip
      rw [S2_nf (by decide)]
theorem T_arrive_0 {a : St} {v k : Nat} (h : k ≠ 5) : T_arrive a v 0 0 k = a 0 0 k := by
  unfold T_arrive
  rw [T_arr2_0]
  unfold T_arr1
  rw [S2_eq, upd_ne h]
  unfold V_arr
  rw [S2_nf (by decide)]
theorem T_first_0 {a : St} {l k : Nat} (h : k ≠ 5) : (T_first a l).1 0 0 k = a 0 0 k := by
  unfold T_first
  split
  · rfl
  · unfold T_firstV
    split
    · rfl
    · split
      · dsimp only
        rw [L_go_off (by decide) (by decide) (by decide) (by decide) (by decide), T_arrive_0 h]
      · split
        · rw [T_comes_off (by decide) (by decide) (by decide) (by decide) (by decide) (by decide) (by decide)]
        · dsimp only
          rw [L_go_off (by decide) (by decide) (by decide) (by decide) (by decide), L_turn_off (by decide), T_comes_off (by decide) (by decide) (by decide) (by decide) (by decide) (by decide) (by decide)]
theorem T_many_0 {l k : Nat} (h : k ≠ 5) : ∀ (d : Nat) (a : St), T_many l d a 0 0 k = a 0 0 k
  | 0, _ => rfl
  | d + 1, a => by
    show (if _ then _ else _ : St) 0 0 k = _
    split
    · exact T_first_0 h
    · rw [T_many_0 h d, T_first_0 h]
theorem T_links_0 {a : St} {k : Nat} (h : k ≠ 5) : T_links a 0 0 k = a 0 0 k := by
  unfold T_links
  split
  · exact itN_keep (P := fun b => b 0 0 k = a 0 0 k) rfl (fun i b hb => by unfold T_link; rw [T_many_0 h]; exact hb) _
  · rfl
theorem T_nodes_0 {a : St} {j : Nat} : T_nodes a 0 j = a 0 j := itN_keep (P := fun b => b 0 j = a 0 j) rfl (fun i b hb => by rw [T_node_off (by decide) (by decide) (by decide) (by decide) (by decide) (by decide) (by decide) (by decide) (by decide)]; exact hb) _
theorem T_costs_off {a : St} {g j : Nat} (hg : g ≠ 2) : T_costs a g j = a g j := by
  unfold T_costs
  split
  · rfl
  · split
    · exact G_reck_off hg
    · rfl
theorem T_play_0 {b : St} {k : Nat} (h4 : k ≠ 4) (h5 : k ≠ 5) : T_play b 0 0 k = b 0 0 k := by
  unfold T_play
  rw [T_nodes_0, T_links_0 h5, T_sigs_off (by decide), T_flows_00 h4 h5]
theorem T_tick_00 {a : St} : T_tick a 0 0 0 = a 0 0 0 + 1 := by
  unfold T_tick T_clock
  rw [S2_eq, upd_eq, G_cq_off (by decide), T_play_0 (by decide) (by decide), T_costs_off (by decide), G_slow_off (by decide)]
theorem T_tick_0k {a : St} {k : Nat} (h0 : k ≠ 0) (h4 : k ≠ 4) (h5 : k ≠ 5) : T_tick a 0 0 k = a 0 0 k := by
  unfold T_tick T_clock
  rw [S2_eq, upd_ne h0, G_cq_off (by decide), T_play_0 h4 h5, T_costs_off (by decide), G_slow_off (by decide)]
theorem T_costs_Wf {M : Nat} {a : St} (h : Wf M a) : Wf M (T_costs a) := by
  unfold T_costs
  split
  · exact h
  · split
    · exact G_reck_Wf h
    · exact h
theorem T_tick_Wf {M : Nat} {a : St} (h : Wf M a) (hM : M < 600000) (hc : 0 ≤ (a 0 0 0).toInt) : Wf (M + 84) (T_tick a) := by
  have h1 : Wf M (T_sigs (T_flows (T_costs (G_slow a)))) := T_sigs_Wf (T_flows_Wf (T_costs_Wf (G_slow_Wf h)))
  have h2 : 0 ≤ (T_sigs (T_flows (T_costs (G_slow a))) 0 0 0).toInt := by
    rw [T_sigs_off (by decide), T_flows_00 (by decide) (by decide), T_costs_off (by decide), G_slow_off (by decide)]
    exact hc
  have h3 : Wf (M + 72 + 12) (T_play (T_costs (G_slow a))) := T_nodes_Wf (T_links_Wf h1 (by omega) h2) (by omega)
  have h4 := G_cq_Wf (tk := (T_play (T_costs (G_slow a))) 0 0 0) h3
  unfold T_tick T_clock
  exact h4.s0 (by rw [upd_ne (by decide)]; exact h4.1.2.1) (by rw [upd_ne (by decide)]; exact h4.1.2.2.1) (by rw [upd_ne (by decide)]; exact h4.1.2.2.2)
/-- many ticks -/
def T_ticks (n : Nat) (a : St) : St := itN (fun _ b => T_tick b) n a
theorem m_in1 {x : Int32} (h0 : 0 ≤ x.toInt) (h : x.toInt + 1 < 2 ^ 31) : (x + 1).toInt = x.toInt + 1 := by
  have e := m_n0 h0
  have h1 := m_tn h0
  rw [e, nI_1, nI_toInt (by omega), nI_toInt (by omega)]
  omega
theorem T_ticks_00 {a : St} : ∀ n : Nat, 0 ≤ (a 0 0 0).toInt → (a 0 0 0).toInt + n < 2 ^ 31 → (T_ticks n a 0 0 0).toInt = (a 0 0 0).toInt + n
  | 0, _, _ => by show _ = _ + ((0 : Nat) : Int); rw [Int.natCast_zero, Int.add_zero]; rfl
  | n + 1, h0, h => by
    have ih := T_ticks_00 n h0 (by omega)
    show (T_tick (T_ticks n a) 0 0 0).toInt = _
    rw [T_tick_00, m_in1 (by omega) (by omega), ih]
    omega
theorem T_ticks_Wf {M : Nat} {a : St} (h : Wf M a) (h0 : 0 ≤ (a 0 0 0).toInt) : ∀ n : Nat, M + 84 * n < 600000 → (a 0 0 0).toInt + n < 2 ^ 31 → Wf (M + 84 * n) (T_ticks n a)
  | 0, _, _ => h
  | n + 1, hM, hc => by
    have ih := T_ticks_Wf h h0 n (by omega) (by omega)
    have h1 := T_ticks_00 n h0 (by omega)
    exact (T_tick_Wf ih (by omega) (by omega)).mono (by omega)
/-- what is told a Turnpike -/
def U_node (a : St) : St := S2 a 0 0 (upd (a 0 0) 2 (a 0 0 2 + 1))
def U_refresh (a : St) (n : Int32) : St := S2 a 0 0 (upd (a 0 0) 1 n)
def U_slow (a : St) (i : Nat) (ra tk : Int32) : St := S2 a 2 i (upd (upd (a 2 i) 5 ra) 6 tk)
def U_shut (a : St) (i : Nat) (bo : Int32) : St := if a 2 i 7 = bo then a else S2 a 2 i (upd (a 2 i) 7 bo)
def U_flow (a : St) (fr to kd st pe mo : Int32) : St := S2 (F_tell a (nFl a) fr to kd st pe mo) 0 0 (upd (a 0 0) 3 (a 0 0 3 + 1))
theorem cT_z : 0 + 84 * cT none ≤ 0 := by decide
theorem pB_z {B : Nat} : 0 + 84 * pB none B ≤ 0 := by
  rw [pB_n]
  decide
theorem m_stepc {k i N : Nat} (h : i < N) : (0 + k * i) + k ≤ k * N := by
  have h1 : k * (i + 1) ≤ k * N := Nat.mul_le_mul_left k h
  rw [Nat.mul_succ] at h1
  omega
theorem TRab_n {a : St} {τ : Tau} : TRab none a τ := fun h => absurd rfl h
/-- when, of d ticks from the k-th on, all are gone; when a vehicle has arrived -/
def E_scan : Nat → Nat → St → Int32
  | 0, _, _ => -1
  | d + 1, k, b => if T_tick b 0 0 5 = 0 then nI k else E_scan d (k + 1) (T_tick b)
def A_scan (v : Nat) : Nat → Nat → St → Int32
  | 0, _, _ => -1
  | d + 1, k, b => if T_tick b 15 v 3 = 2 then nI k else A_scan v d (k + 1) (T_tick b)
theorem R_copy_Wf3 {M : Nat} {a b : St} {i : Nat} (hi : i < 24) (ha : Wf M a) (hb : Wf M b) : Wf M (R_copy 3 4 b a i) := (hb.s3 (by rw [upd_eq]; exact (ha.2.1 i hi).2.2.2.2.1)).s4
theorem R_copy_Wf5 {M : Nat} {a b : St} {i : Nat} (hi : i < 24) (ha : Wf M a) (hb : Wf M b) : Wf M (R_copy 5 6 b a i) := (hb.s5 (by rw [upd_eq]; exact (ha.2.1 i hi).2.2.2.2.2)).s6
theorem R_copy_Wf12 {M : Nat} {a b : St} {i : Nat} (hi : i < 12) (ha : Wf M a) (hb : Wf M b) : Wf M (R_copy 12 13 b a i) := (hb.s12 (by rw [upd_eq]; exact (ha.2.2.1 i hi).2)).s13
theorem L_copy_Wf {M : Nat} {a b : St} {i : Nat} (hi : i < 24) (ha : Wf M a) (hb : Wf M b) : Wf M (L_copy b a i) := by
  obtain ⟨h0, h1, h4, h5, -, -⟩ := ha.2.1 i hi
  exact R_copy_Wf5 hi ha (R_copy_Wf3 hi ha (hb.s2 h0 h1 h4 h5))
theorem G_copy_Wf {M : Nat} {a b : St} (ha : Wf M a) (hb : Wf M b) : Wf M (G_copy b a) := itN_keepB (N := nL a) (hb.s1 (by rw [upd_eq]; exact ha.1.1)) (fun i c hi hc => L_copy_Wf (Nat.lt_of_lt_of_le hi (in_le ha.1.1)) ha hc) _ (Nat.le_refl _)
theorem T_cp0_Wf {M : Nat} {a b : St} (ha : Wf M a) (hb : Wf M b) : Wf M (T_cp0 b a) := hb.s0 ha.1.2.1 ha.1.2.2.1 ha.1.2.2.2
theorem T_cpn_Wf {M : Nat} {a b : St} {n : Nat} (hn : n < 12) (ha : Wf M a) (hb : Wf M b) : Wf M (T_cpn a n b) := by
  refine R_copy_Wf12 hn ha ?_
  exact (hb.s9.s10.s11).s8 (ha.2.2.1 n hn).1
theorem T_cpf_Wf {M : Nat} {a b : St} {f : Nat} (hf : f < 10) (ha : Wf M a) (hb : Wf M b) : Wf M (T_cpf a f b) := hb.s14 (ha.2.2.2.1 f hf).1 (ha.2.2.2.1 f hf).2
theorem T_cpv_Wf {M : Nat} {a b : St} {v : Nat} (hv : v < 200) (ha : Wf M a) (hb : Wf M b) : Wf M (T_cpv a v b) := by
  obtain ⟨h11, h1, h7⟩ := ha.2.2.2.2 v hv
  have hc : Wf M (V_come b v (a 15 v 0) (a 15 v 1) (a 15 v 2) (a 15 v 4)) := Wf.s15 hb (show in_ (0 : Int32) 11 from ⟨by decide, by decide⟩) (show in_ (a 15 v 1) 11 from h1) (show in_ (0 : Int32) M from ⟨by decide, by show (0 : Int) ≤ _; omega⟩)
  unfold T_cpv V_copy V_cop1
  refine Wf.s16 (Wf.s15 hc h11 ?_ h7)
  show in_ (V_come b v (a 15 v 0) (a 15 v 1) (a 15 v 2) (a 15 v 4) 15 v 1) 11
  unfold V_come
  rw [S2_eq]
  exact h1
theorem T_copy_Wf {M : Nat} {a b : St} (ha : Wf M a) (hb : Wf M b) : Wf M (T_copy b a) :=
  itN_keepB (N := nV a) (itN_keepB (N := nFl a) (itN_keepB (N := nN a) (G_copy_Wf ha (T_cp0_Wf ha hb)) (fun i c hi hc => T_cpn_Wf (Nat.lt_of_lt_of_le hi (in_le ha.1.2.1)) ha hc) _ (Nat.le_refl _)) (fun i c hi hc => T_cpf_Wf (Nat.lt_of_lt_of_le hi (in_le ha.1.2.2.1)) ha hc) _ (Nat.le_refl _)) (fun i c hi hc => T_cpv_Wf (Nat.lt_of_lt_of_le hi (in_le ha.1.2.2.2)) ha hc) _ (Nat.le_refl _)
theorem T_copy_0 {a b : St} {k : Nat} (hk : k < 6) : T_copy b a 0 0 k = a 0 0 k := by
  have h1 : T_copy b a 0 = T_cp0 b a 0 := by
    refine itN_keep (P := fun c => c 0 = T_cp0 b a 0) ?_ (fun i c h => by rw [T_cpv_0]; exact h) _
    refine itN_keep (P := fun c => c 0 = T_cp0 b a 0) ?_ (fun i c h => by rw [T_cpf_0]; exact h) _
    refine itN_keep (P := fun c => c 0 = T_cp0 b a 0) ?_ (fun i c h => by rw [T_cpn_0]; exact h) _
    exact G_copy_0
  rw [h1]
  exact T_cp0_0 hk
/-- what the checksum is, in numbers -/
def itL (g : Nat → Int64 → Int64) : Nat → Int64 → Int64
  | 0, d => d
  | n + 1, d => g n (itL g n d)
def D_n1 (a : St) (i : Nat) (d : Int64) : Int64 := ((d * 31 + (a 8 (nI i).toNatClampNeg 1).toInt64) * 31 + (a 8 (nI i).toNatClampNeg 2).toInt64) * 31 + (a 12 (nI i).toNatClampNeg 0).toInt64
def D_n2 (a : St) (i j : Nat) (d : Int64) : Int64 := (d * 31 + (bf a (nI j).toNatClampNeg (nI i).toNatClampNeg).toInt64) * 31 + (G_first a (nI i) (nI j)).toInt64
def D_n (a : St) (i : Nat) (d : Int64) : Int64 := itL (D_n2 a i) (nN a) (D_n1 a i d)
def D_nodes (a : St) (d : Int64) : Int64 := itL (D_n a) (nN a) d
def D_l1 (a : St) (i : Nat) (d : Int64) : Int64 := (((d * 31 + (if a 2 (nI i).toNatClampNeg 7 = 0 then (0 : Int32) else 1).toInt64) * 31 + (a 2 (nI i).toNatClampNeg 5).toInt64) * 31 + (a 2 (nI i).toNatClampNeg 8).toInt64) * 31 + (a 3 (nI i).toNatClampNeg 0).toInt64
def D_l2 (a : St) (i j : Nat) (d : Int64) : Int64 := d * 31 + (R_get (a 3 (nI i).toNatClampNeg 0) (a 4 (nI i).toNatClampNeg) (nI j)).toInt64
def D_l3 (a : St) (i : Nat) (d : Int64) : Int64 := d * 31 + (L_q a (nI i).toNatClampNeg (a 0 0 0)).toInt64
def D_l4 (a : St) (i j : Nat) (d : Int64) : Int64 := d * 31 + (a 2 (nI i).toNatClampNeg (9 + j)).toInt64
def D_l5 (a : St) (i j : Nat) (d : Int64) : Int64 := d * 31 + (a 7 (nI i).toNatClampNeg (nI j).toNatClampNeg).toInt64
def D_l (a : St) (i : Nat) (d : Int64) : Int64 := itL (D_l5 a i) (nL a) (itL (D_l4 a i) 4 (D_l3 a i (itL (D_l2 a i) (a 3 (nI i).toNatClampNeg 0).toNatClampNeg (D_l1 a i d))))
def D_links (a : St) (d : Int64) : Int64 := itL (D_l a) (nL a) d
def D_f1 (a : St) (i j : Nat) (d : Int64) : Int64 := d * 31 + (a 14 (nI i).toNatClampNeg (6 + j)).toInt64
def D_f (a : St) (i : Nat) (d : Int64) : Int64 := itL (D_f1 a i) 6 d
def D_flows (a : St) (d : Int64) : Int64 := itL (D_f a) (nFl a) d
def D_v (a : St) (i : Nat) (d : Int64) : Int64 := (((((d * 31 + (a 15 (nI i).toNatClampNeg 3).toInt64) * 31 + (a 15 (nI i).toNatClampNeg 5).toInt64) * 31 + (a 15 (nI i).toNatClampNeg 6).toInt64) * 31 + (a 15 (nI i).toNatClampNeg 7).toInt64) * 31 + (a 15 (nI i).toNatClampNeg 9).toInt64) * 31 + (a 15 (nI i).toNatClampNeg 10).toInt64
def D_vehs (a : St) (d : Int64) : Int64 := itL (D_v a) (nV a) d
def D_head (a : St) : Int64 := ((((58038 * 31 + (a 0 0 0).toInt64) * 31 + (a 0 0 2).toInt64) * 31 + (a 1 0 0).toInt64) * 31 + (a 0 0 3).toInt64) * 31 + (a 0 0 4).toInt64
def D_all (a : St) : Int64 := D_vehs a (D_flows a (D_links a (D_nodes a (D_head a))))
theorem nI_nno {M : Nat} {a : St} {i : Nat} (hw : Wf M a) (h : i < nN a) : ¬ N_no a (nI i) := by
  have h1 : nN a ≤ 12 := in_le hw.1.2.1
  rintro (h2 | h2)
  · exact nI_pos (by omega) h2
  · rw [in_nI hw.1.2.1] at h2
    exact nI_ge h (by omega) h2
theorem nI_fno {M : Nat} {a : St} {i : Nat} (hw : Wf M a) (h : i < nFl a) : ¬ F_no a (nI i) := by
  have h1 : nFl a ≤ 10 := in_le hw.1.2.2.1
  rintro (h2 | h2)
  · exact nI_pos (by omega) h2
  · rw [in_nI hw.1.2.2.1] at h2
    exact nI_ge h (by omega) h2
theorem nI_vno {M : Nat} {a : St} {i : Nat} (hw : Wf M a) (h : i < nV a) : ¬ T_no a (nI i) := by
  have h1 : nV a ≤ 200 := in_le hw.1.2.2.2
  rintro (h2 | h2)
  · exact nI_pos (by omega) h2
  · rw [in_nI hw.1.2.2.2] at h2
    exact nI_ge h (by omega) h2
theorem nI_lno {M : Nat} {a : St} {i : Nat} (hw : Wf M a) (h : i < nL a) : ¬ G_no a (nI i) := by
  have h1 : nL a ≤ 24 := in_le hw.1.1
  rintro (h2 | h2)
  · exact nI_pos (by omega) h2
  · rw [in_nI hw.1.1] at h2
    exact nI_ge h (by omega) h2
theorem nI_ltN {y : Int32} {n j : Nat} (h : j < y.toNatClampNeg) (hy : in_ y n) : nI j < y := by
  have h9 := nI_ltz h hy
  exact m_nle h9
