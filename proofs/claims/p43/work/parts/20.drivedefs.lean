/-! a vehicle comes onto a link: what stays, what keeps within bounds -/
theorem tw_ghost {cy : Nat → ClassId} {L : Lay} {tr : Option Nat} {a : St} {κ : Kap} {τ : Tau} {v : Nat} {x : Nat → Int32} : ∀ q e, TW cy L tr (S2 a 30 v x) κ τ q e → TW cy L tr a κ τ q e := by
  rintro q e (⟨f, i, hi, rfl, rfl⟩ | h)
  · have hf : f ≠ 30 := fun h9 => by
      subst h9
      exact absurd hi (Nat.not_lt_zero _)
    exact Or.inl ⟨f, i, hi, rfl, by rw [S2_nf hf]⟩
  · exact Or.inr h
theorem T_on1_off {a : St} {v : Nat} {nx : Int32} {g j : Nat} (h : g ≠ 15) : T_on1 a v nx g j = a g j := S2_nf h
theorem L_take_off {a : St} {i : Nat} {v e : Int32} {g j : Nat} (h2 : g ≠ 2) (h3 : g ≠ 3) (h4 : g ≠ 4) (h5 : g ≠ 5) (h6 : g ≠ 6) : L_take a i v e g j = a g j := by
  unfold L_take L_came
  rw [S2_nf h2, R_app_off h5 h6, R_app_off h3 h4]
theorem L_go_off {a : St} {i : Nat} {g j : Nat} (h2 : g ≠ 2) (h3 : g ≠ 3) (h4 : g ≠ 4) (h5 : g ≠ 5) (h6 : g ≠ 6) : L_go a i g j = a g j := by
  unfold L_go L_left
  rw [S2_nf h2, R_drop_off h5 h6, R_drop_off h3 h4]
theorem L_turn_off {a : St} {i : Nat} {n : Int32} {g j : Nat} (h : g ≠ 7) : L_turn a i n g j = a g j := by
  unfold L_turn
  split
  · rfl
  · split
    · rfl
    · exact S2_nf h
theorem T_onto_off {a : St} {v : Nat} {vn nx : Int32} {g j : Nat} (h2 : g ≠ 2) (h3 : g ≠ 3) (h4 : g ≠ 4) (h5 : g ≠ 5) (h6 : g ≠ 6) (h15 : g ≠ 15) (h30 : g ≠ 30) : T_onto a v vn nx g j = a g j := by
  unfold T_onto T_on3 T_on2
  rw [S2_nf h30, L_take_off h2 h3 h4 h5 h6, T_on1_off h15]
theorem T_onto_15 {a : St} {v w : Nat} {vn nx : Int32} : T_onto a v vn nx 15 w = T_on1 a v nx 15 w := by
  unfold T_onto T_on3 T_on2
  rw [S2_nf (by decide), L_take_off (by decide) (by decide) (by decide) (by decide) (by decide)]
theorem T_on1_15 {a : St} {v : Nat} {nx : Int32} : T_on1 a v nx 15 v = X_onto (a 15 v) nx (a 2 nx.toNatClampNeg 2) (a 0 0 0) := S2_eq
theorem T_on1_n {a : St} {v w : Nat} {nx : Int32} (h : w ≠ v) : T_on1 a v nx 15 w = a 15 w := S2_ni h
theorem in_up {x : Int32} {M : Nat} (h : in_ x M) (hM : M < 900000) : in_ (x + 1) (M + 1) := by
  obtain ⟨h1, h2⟩ := h
  have h3 : in_ x (M + 1) := ⟨h1, by omega⟩
  have h4 := m_succ h3 (by omega) (by omega)
  exact ⟨by omega, by omega⟩
theorem T_on1_Wf {M : Nat} {a : St} {v : Nat} {nx : Int32} (hv : v < 200) (hM : M < 900000) (h : Wf M a) : Wf (M + 1) (T_on1 a v nx) := by
  obtain ⟨h1, h2, h3⟩ := h.2.2.2.2 v hv
  exact (h.mono (by omega)).s15 h1 h2 (show in_ (a 15 v 7 + 1) (M + 1) from in_up h3 hM)
theorem T_on2_Wf {M : Nat} {b : St} {v : Nat} {vn nx : Int32} (hn : nx.toNatClampNeg < 24) (h : Wf M b) : Wf M (T_on2 b v vn nx) := L_take_Wf hn h
theorem T_onto_Wf {M : Nat} {a : St} {v : Nat} {vn nx : Int32} (hv : v < 200) (hM : M < 900000) (hn : nx.toNatClampNeg < 24) (h : Wf M a) : Wf (M + 1) (T_onto a v vn nx) := (T_on2_Wf hn (T_on1_Wf hv hM h)).s30
theorem T_onto_sameR {a : St} {v : Nat} {vn nx : Int32} : sameR a (T_onto a v vn nx) := ((sameR.off (by decide) (by decide)).trans L_take_sameR).trans (sameR.off (by decide) (by decide))
theorem T_comes_Wf {M : Nat} {a : St} {v : Nat} {vn nx : Int32} (hv : v < 200) (hM : M < 900000) (h : Wf M a) : Wf (M + 1) (T_comes a v vn nx).1 := by
  unfold T_comes
  split
  · exact h.mono (by omega)
  · rename_i hn
    split
    · exact h.mono (by omega)
    · exact T_onto_Wf hv hM (m_lt (n := 24) (fun h => hn (Or.inl h)) (fun h => hn (Or.inr h)) h.1.1.2) h
theorem T_comes_sameR {a : St} {v : Nat} {vn nx : Int32} : sameR a (T_comes a v vn nx).1 := by
  unfold T_comes
  split
  · exact sameR.refl a
  · split
    · exact sameR.refl a
    · exact T_onto_sameR
/-- the trails behind it, as Trails.put leaves them -/
theorem T_onto_TR {tr : Option Nat} {a : St} {v x : Nat} {vn nx : Int32} {τ τ' : Tau} {M : Nat} (h : Wf M a) (hM : M < 900000) (hv : v < 200) (hvv : v < (a 0 0 4).toNatClampNeg) (hx : nx.toNatClampNeg = x) (ht : TRab tr a τ) (hg : TRg (fun u => if u = v then (a 15 v 7).toNatClampNeg + 1 else (a 15 u 7).toNatClampNeg) (fun u j => if u = v ∧ j = (a 15 v 7).toNatClampNeg then x else (a 30 u j).toNatClampNeg) τ') : TRab tr (T_onto a v vn nx) τ' := fun hn => by
  have h7 := (h.2.2.2.2 v hv).2.2
  have e7 : (a 15 v 7 + 1).toNatClampNeg = (a 15 v 7).toNatClampNeg + 1 := by
    have h1 := in_up h7 hM
    have h3 : in_ (a 15 v 7) (M + 1) := ⟨h7.1, by have := h7.2; omega⟩
    have h2 := m_succ h3 (by have := h7.2; omega) (by omega)
    have h4 := m_tn h1.1
    have h5 := m_tn h7.1
    omega
  have e15 : ∀ u, (T_onto a v vn nx 15 u 7).toNatClampNeg = if u = v then (a 15 v 7).toNatClampNeg + 1 else (a 15 u 7).toNatClampNeg := fun u => by
    rw [T_onto_15]
    by_cases hu : u = v
    · subst hu
      rw [T_on1_15, if_pos rfl]
      exact e7
    · rw [T_on1_n hu, if_neg hu]
  have e30 : ∀ u j, (T_onto a v vn nx 30 u j).toNatClampNeg = if u = v ∧ j = (a 15 v 7).toNatClampNeg then x else (a 30 u j).toNatClampNeg := fun u j => by
    have o : ∀ w, T_on2 (T_on1 a v nx) v vn nx 30 w = a 30 w := fun w => by
      unfold T_on2
      rw [L_take_off (by decide) (by decide) (by decide) (by decide) (by decide), T_on1_off (by decide)]
    have o7 : (T_on2 (T_on1 a v nx) v vn nx 15 v 7).toNatClampNeg - 1 = (a 15 v 7).toNatClampNeg := by
      unfold T_on2
      rw [L_take_off (by decide) (by decide) (by decide) (by decide) (by decide), T_on1_15]
      show (a 15 v 7 + 1).toNatClampNeg - 1 = _
      rw [e7]
      omega
    unfold T_onto T_on3
    by_cases hu : u = v
    · subst hu
      rw [S2_eq, o7, o]
      by_cases hj : j = (a 15 u 7).toNatClampNeg
      · rw [hj, upd_eq, if_pos ⟨rfl, rfl⟩, hx]
      · rw [upd_ne hj, if_neg (fun h => hj h.2)]
    · rw [S2_ni hu, o, if_neg (fun h => hu h.1)]
  refine ⟨fun w hw hl => ?_, ?_⟩
  · rw [T_onto_off (by decide) (by decide) (by decide) (by decide) (by decide) (by decide) (by decide)] at hl
    rw [T_onto_15, T_on1_n (by omega)]
    exact (ht hn).1 w hw hl
  · have e1 : (fun u => (T_onto a v vn nx 15 u 7).toNatClampNeg) = fun u => if u = v then (a 15 v 7).toNatClampNeg + 1 else (a 15 u 7).toNatClampNeg := funext e15
    have e2 : (fun u j => (T_onto a v vn nx 30 u j).toNatClampNeg) = fun u j => if u = v ∧ j = (a 15 v 7).toNatClampNeg then x else (a 30 u j).toNatClampNeg := funext fun u => funext fun j => e30 u j
    rw [e1, e2]
    exact hg
theorem V_arr_Wf {M : Nat} {a : St} {v : Nat} {tk : Int32} (hv : v < 200) (h : Wf M a) : Wf M (V_arr a v tk) := by
  obtain ⟨h1, h2, h3⟩ := h.2.2.2.2 v hv
  exact h.s15 h1 h2 h3
theorem T_arr1_Wf {M : Nat} {a : St} (h : Wf M a) : Wf M (T_arr1 a) := h.s0 h.1.2.1 h.1.2.2.1 h.1.2.2.2
theorem F_trip_Wf {M : Nat} {a : St} {f : Nat} {x y : Int32} (hf : f < 10) (h : Wf M a) : Wf M (F_trip a f x y) := h.s14 (h.2.2.2.1 f hf).1 (h.2.2.2.1 f hf).2
theorem T_arrive_Wf {M : Nat} {a : St} {v : Nat} (hv : v < 200) (h : Wf M a) : Wf M (T_arrive a v) := by
  have h1 := T_arr1_Wf (V_arr_Wf (tk := a 0 0 0) hv h)
  unfold T_arrive T_arr2
  split
  · exact h1
  · rename_i c1
    split
    · exact h1
    · rename_i c2
      exact F_trip_Wf (m_lt (n := 10) c1 c2 h1.1.2.2.1.2) h1
theorem T_arr2_sameR {b : St} {v : Nat} : sameR b (T_arr2 b v) := by
  unfold T_arr2
  split
  · exact sameR.refl b
  · split
    · exact sameR.refl b
    · exact sameR.off (by decide) (by decide)
theorem T_arrive_sameR {a : St} {v : Nat} : sameR a (T_arrive a v) := ((sameR.off (by decide) (by decide)).trans (sameR.off (by decide) (by decide))).trans T_arr2_sameR
theorem T_arr2_sameT {b : St} {v : Nat} : sameT b (T_arr2 b v) := by
  unfold T_arr2
  split
  · exact sameT.refl b
  · split
    · exact sameT.refl b
    · exact sameT.off (by decide) (by decide) (by decide)
theorem V_arr_sameT {a : St} {v : Nat} {tk : Int32} : sameT a (V_arr a v tk) := sameT.v15 (x := X_arr (a 15 v) tk) rfl
theorem T_arr1_sameT {b : St} : sameT b (T_arr1 b) := sameT.z0 (x := upd (b 0 0) 5 (b 0 0 5 - 1)) rfl
theorem T_arrive_sameT {a : St} {v : Nat} : sameT a (T_arrive a v) := ((V_arr_sameT (tk := a 0 0 0)).trans T_arr1_sameT).trans T_arr2_sameT
theorem R_drop_sameT {f g : Nat} {a : St} {i : Nat} (h1 : 15 ≠ f) (h2 : 15 ≠ g) (h3 : 30 ≠ f) (h4 : 30 ≠ g) (h5 : 0 ≠ f) (h6 : 0 ≠ g) : sameT a (R_drop f g a i) := sameT.of (by funext j; rw [R_drop_off h1 h2]) (by funext j; rw [R_drop_off h3 h4]) (by rw [R_drop_off h5 h6])
theorem L_go_sameT {a : St} {i : Nat} : sameT a (L_go a i) := sameT.of (by funext j; rw [L_go_off (by decide) (by decide) (by decide) (by decide) (by decide)]) (by funext j; rw [L_go_off (by decide) (by decide) (by decide) (by decide) (by decide)]) (by rw [L_go_off (by decide) (by decide) (by decide) (by decide) (by decide)])
theorem L_turn_sameT {a : St} {i : Nat} {n : Int32} : sameT a (L_turn a i n) := sameT.of (by funext j; rw [L_turn_off (by decide)]) (by funext j; rw [L_turn_off (by decide)]) (by rw [L_turn_off (by decide)])
theorem T_no_in {M : Nat} {a : St} {n : Int32} (h : Wf M a) (hn : ¬ T_no a n) : n.toNatClampNeg < (a 0 0 4).toNatClampNeg ∧ n.toNatClampNeg < 200 ∧ n = nI n.toNatClampNeg := by
  have h1 : ¬ n < 0 := fun h => hn (Or.inl h)
  have h2 : ¬ a 0 0 4 ≤ n := fun h => hn (Or.inr h)
  have h3 := m_lt (n := 200) h1 h2 h.1.2.2.2.2
  have h4 := m_tn (m_i0.mp h1)
  have h5 := m_tn h.1.2.2.2.1
  have h6 := m_ge h2
  exact ⟨by omega, h3, m_nI h1⟩
theorem T_firstV_Wf {M : Nat} {a : St} {l v : Nat} {n : Int32} (hl : l < 24) (hv : v < 200) (hM : M < 900000) (h : Wf M a) : Wf (M + 1) (T_firstV a l v n).1 := by
  unfold T_firstV
  split
  · exact h.mono (by omega)
  · split
    · exact L_go_Wf hl ((T_arrive_Wf hv h).mono (by omega))
    · split
      · exact T_comes_Wf hv hM h
      · exact L_go_Wf hl (L_turn_Wf (T_comes_Wf hv hM h))
theorem T_first_Wf {M : Nat} {a : St} {l : Nat} (hl : l < 24) (hM : M < 900000) (h : Wf M a) : Wf (M + 1) (T_first a l).1 := by
  unfold T_first
  split
  · exact h.mono (by omega)
  · rename_i hn
    exact T_firstV_Wf hl (T_no_in h hn).2.1 hM h
theorem T_nodeV_Wf {M : Nat} {a : St} {n v : Nat} {vn : Int32} (hn : n < 12) (hv : v < 200) (hM : M < 900000) (h : Wf M a) : Wf (M + 1) (T_nodeV a n v vn) := by
  unfold T_nodeV
  split
  · exact T_comes_Wf hv hM h
  · exact R_drop_Wf12 hn (T_comes_Wf hv hM h)
theorem T_node_Wf {M : Nat} {a : St} {n : Nat} (hn : n < 12) (hM : M < 900000) (h : Wf M a) : Wf (M + 1) (T_node n a) := by
  unfold T_node
  split
  · exact h.mono (by omega)
  · rename_i hf
    exact T_nodeV_Wf hn (T_no_in h hf).2.1 hM h
theorem cT_n : cT none = 0 := rfl
theorem cT_s {t : Nat} : cT (some t) = 1 := rfl
theorem pB_n {B : Nat} : pB none B = 0 := Nat.zero_mul _
theorem pB_s {t B : Nat} : pB (some t) B = 2 * (B / 12) + 1 := Nat.one_mul _
