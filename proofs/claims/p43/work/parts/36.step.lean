theorem tw_161 : Cond.code yX8_checkTicks cX8_checkTicks 1 none ∈ tp_all := tp_mem 161 (by decide +kernel) rfl
theorem tw_159 : Cond.methodLink RX8 120 yX8_checkTicks ∈ tp_all := tp_mem 159 (by decide +kernel) rfl
theorem tw_160 : Cond.static yX8_checkTicks ∈ tp_all := tp_mem 160 (by decide +kernel) rfl
theorem tw_165 : Cond.code yX5_tick cX5_tick 1 none ∈ tp_all := tp_mem 165 (by decide +kernel) rfl
theorem tw_162 : Cond.methodLink RX8 123 yX5_tick ∈ tp_all := tp_mem 162 (by decide +kernel) rfl
theorem tw_163 : Cond.instanceMethod yX5_tick ∈ tp_all := tp_mem 163 (by decide +kernel) rfl
theorem tw_164 : Cond.selects RX5 yX5_tick yX5_tick ∈ tp_all := tp_mem 164 (by decide +kernel) rfl
theorem dX8_step_0 : decode cX8_step 0 = .ok (.iload_n 1, 1) := by decide +kernel
theorem dX8_step_1 : decode cX8_step 1 = .ok (.invokestatic 120, 3) := by decide +kernel
theorem dX8_step_4 : decode cX8_step 4 = .ok (.iconst 0, 1) := by decide +kernel
theorem dX8_step_5 : decode cX8_step 5 = .ok (.istore_n 2, 1) := by decide +kernel
theorem dX8_step_6 : decode cX8_step 6 = .ok (.iload_n 2, 1) := by decide +kernel
theorem dX8_step_7 : decode cX8_step 7 = .ok (.iload_n 1, 1) := by decide +kernel
theorem dX8_step_8 : decode cX8_step 8 = .ok (.if_icmp .ge 16, 3) := by decide +kernel
theorem dX8_step_24 : decode cX8_step 24 = .ok (.aload_n 0, 1) := by decide +kernel
theorem dX8_step_25 : decode cX8_step 25 = .ok (.getfield 12, 3) := by decide +kernel
theorem dX8_step_28 : decode cX8_step 28 = .ok (.getfield 102, 3) := by decide +kernel
theorem dX8_step_31 : decode cX8_step 31 = .ok (.ireturn, 1) := by decide +kernel
theorem dX8_step_11 : decode cX8_step 11 = .ok (.aload_n 0, 1) := by decide +kernel
theorem dX8_step_12 : decode cX8_step 12 = .ok (.getfield 12, 3) := by decide +kernel
theorem dX8_step_15 : decode cX8_step 15 = .ok (.invokevirtual 123, 3) := by decide +kernel
theorem dX8_step_18 : decode cX8_step 18 = .ok (.iinc 2 1, 3) := by decide +kernel
theorem dX8_step_21 : decode cX8_step 21 = .ok (.goto (-15), 3) := by decide +kernel
set_option maxRecDepth 100000 in
set_option maxHeartbeats 4000000 in
/-- step -/
theorem c_step (l : Launch) (dC : Nat → ClassId) (dI : Nat → Nat → Nat) (cy : Nat → ClassId) (L : Lay) (tr : Option Nat) (a : St) (κ : Kap) (τ : Tau) (ob : Nat) (tp : Nat) (M : Nat) (Bd : Nat) (N : Nat) (sz : Nat) (hT : TL L tr τ) (hw : Wf M a) (hh : Hid L tr a κ τ) (h1N : 1 ≤ N) (hN60 : N ≤ 60) (hMB : M + 84 * N ≤ Bd) (hB2 : Bd < 30000) (hck : 0 ≤ (a 0 0 0).toInt) (hck2 : (a 0 0 0).toInt + N < 2 ^ 31) : Met l yX8_step (tp_w yX8_step cX8_step 3 (some .int)) ({ frames := 7, cells := 84 * cT tr * N, slots := 84 * pB tr Bd * N, locals := 171 }) (va_Pc [.ref ob, .int (nI N)] (mPre dC dI cy (fun q e => TW cy L tr a κ τ q e ∨ oW ob (L 0 0) tp q e) sz)) (va_Qi (fun (r u : Int32) => r = u) (fun (u : Int32) (t : State) => ∃ (κ2 : Kap), ∃ (τ2 : Tau), (u = T_ticks N a 0 0 0) ∧ (Hid L tr (T_ticks N a) κ2 τ2) ∧ mw (dC, dI) vwCl (mA (fun q e => TW cy L tr a κ τ q e ∨ oW ob (L 0 0) tp q e) sz) (fun q e => TW cy L tr (T_ticks N a) κ2 τ2 q e ∨ oW ob (L 0 0) tp q e) t.heap) (mA (fun q e => TW cy L tr a κ τ q e ∨ oW ob (L 0 0) tp q e) sz)) (84 * cT tr * N) (84 * pB tr Bd * N) (mA (fun q e => TW cy L tr a κ τ q e ∨ oW ob (L 0 0) tp q e) sz) := by
  refine Met.ofW (cc := cX8_step) (maxL := 3) (ret := (some .int)) (by decide) rfl ?_
  intro p e s m args below meth c s₁ B hml hv
  obtain ⟨rfl, hsz, hP, hK, hE⟩ := hv
  have hx := B.exec
  have hb := B.bytes
  have hr := B.returns
  have hts0 := atoms_spec (ws := tp_w yX8_step cX8_step 3 (some .int)) B.pre
  have hts : ∀ w ∈ tp_all, w.before _ s = true := fun w h => hts0 w (List.mem_cons_of_mem _ h)
  have hown : s.vm.findClass RX8 = some m.cls := findClass_of_methodNamed B.named
  have hlocks := B.notSynchronized
  subst hsz
  have hP := hP.self s.heap.size
  generalize hAe : mA (fun q e => TW cy L tr a κ τ q e ∨ oW ob (L 0 0) tp q e) s.heap.size = A at hP ⊢
  have hA : ∀ q : Nat, s.heap.size ≤ q → A q := fun q h => by rw [← hAe]; exact Or.inr h
  have hS : va_S A s.heap s.heap [] := va_S.rf
  have hl9 := lv_entry ([.ref ob, .int (nI N)]) (n := 3) (Nat.le_of_ble_eq_true rfl)
  rw [lg_entry_eq]
  generalize (lg_sl ([.ref ob, .int (nI N)]) ++ List.replicate (3 - (lg_sl ([.ref ob, .int (nI N)])).length) Slot.unset).toArray = ls at hl9 ⊢
  have hl : lv_has ls 3 [(0, .ref ob), (1, .int (nI N))] := hl9
  refine lv_iload_n hx hb dX8_step_0 rfl (lv_at hl 1 rfl) ?_
  have hFc := m_free (C := (fun q e => TW cy L tr a κ τ q e ∨ oW ob (L 0 0) tp q e)) hP hS hA (fun _ _ h => h)
  refine va_callv (va_runS (As := [.int (nI N)]) (rest := []) ⟨hx, hb, hml, hown, hts⟩ (c_checkTicks l dC dI cy ((fun q e => TW cy L tr a κ τ q e ∨ oW ob (L 0 0) tp q e)) (nI N) s.heap.size (nI_nlt (a := N) (b := 1) (by omega) (by omega)) (nI_nlt (a := 60) (b := N) (by omega) (by omega))) (tp_cwS 1 hts tw_159 tw_160 tw_20 tw_161 rfl rfl (by decide +kernel) ⟨Nat.le_of_ble_eq_true rfl, Nat.le_of_ble_eq_true rfl⟩) ⟨m_blind, fun U hU hW => ⟨rfl, m_pay hK hP hE (fun _ _ h => h) U hU hW⟩⟩ rfl rfl hl.1 rfl (lv_room (Nat.le_of_ble_eq_true rfl)) dX8_step_1 ⟨(by show 0 + 0 ≤ 84 * cT tr * N; omega), (by show 0 + 0 ≤ 84 * pB tr Bd * N; omega)⟩) hS (fun q _ h => hFc q h) hFc (fun u t H1 locs ht hvm hpo hB hz1 hk1 hS => ?_)
  have hP1 := hB
  rw [ht] at hP1
  have hP : mw (dC, dI) vwCl A (fun q e => TW cy L tr a κ τ q e ∨ oW ob (L 0 0) tp q e) H1 := hP.join (fun _ _ h => h) hk1 hFc hP1 (fun _ _ h => Or.inl h)
  generalize H1 = H at hP hS ⊢
  clear hP1 hk1 hFc
  refine lv_iconst (v := 0) hx hb dX8_step_4 (by decide) ?_
  refine lv_istore_n (lv' := [(2, .int 0), (0, .ref ob), (1, .int (nI N))]) hx hb dX8_step_5 rfl hl (by decide) rfl (fun ls hl => ?_)
  refine W.widen (k := (fun i => 0 + 84 * cT tr * i) 0) (n := (fun i => 0 + 84 * pB tr Bd * i) 0) (Nat.le_refl _) (Nat.le_refl _) ?_
  refine tp_for (σ := Kap × Tau) N (fun i => 0 + 84 * cT tr * i) (fun i => 0 + 84 * pB tr Bd * i) (fun (i : Nat) (x : Kap × Tau) (H : Heap) (locs : List Loc) (ls : Array Slot) => Hid L tr (T_ticks i a) x.1 x.2 ∧ mw (dC, dI) vwCl A (fun q e => TW cy L tr (T_ticks i a) x.1 x.2 q e ∨ oW ob (L 0 0) tp q e) H ∧ va_S A s.heap H locs ∧ lv_has ls 3 [(2, .int (nI i)), (0, .ref ob), (1, .int (nI N))]) ?_ ?_ N 0 (Nat.zero_add _) (κ, τ) _ _ ls ⟨hh, hP, hS, lv_sub hl [0, 1, 2] rfl⟩
  · rintro ⟨κ9, τ9⟩ H locs ls ⟨hh9, hP, hS, hl⟩
    have hl : lv_has ls 3 [(2, .int (nI N)), (0, .ref ob), (1, .int (nI N))] := hl
    have hP : mw (dC, dI) vwCl A (fun q e => TW cy L tr (T_ticks N a) κ9 τ9 q e ∨ oW ob (L 0 0) tp q e) H := hP
    have hh9 : Hid L tr (T_ticks N a) κ9 τ9 := hh9
    show W _ _ _ _ _ _ _ _ _ _ _ _ (0 + 84 * cT tr * N) (0 + 84 * pB tr Bd * N) _ _
    have hw1 : Wf (M + 84 * N) (T_ticks N a) := T_ticks_Wf hw hck N (by omega) (by omega)
    have hck1 : 0 ≤ (T_ticks N a 0 0 0).toInt := by rw [T_ticks_00 N hck (by omega)]; omega
    refine lv_iload_n hx hb dX8_step_6 rfl (lv_at hl 0 rfl) ?_
    refine lv_iload_n hx hb dX8_step_7 rfl (lv_at hl 2 rfl) ?_
    refine lv_icmp_ge (tgt := 24) hx hb dX8_step_8 (by decide) (fun _ => ?_) (fun c_1 => absurd (Int32.le_refl _) c_1)
    refine lv_aload_n hx hb dX8_step_24 rfl (lv_at hl 1 rfl) ?_
    refine va_get (D := (dC, dI)) (ws := [(ob, .inr (8, [.ref (L 0 0), .ref tp]))]) (ci := 8) (v := .ref (L 0 0)) (C := RX8) (T := TX8) (N := 2) hx hb hts tl_X8 hown hK (hP.one (Or.inr oW_mem)) 0 rfl rfl 0 (by decide) (hts _ tw_922) (fun _ h9 => h9) rfl dX8_step_25 ?_
    refine va_getN (D := (dC, dI)) (ws := [(L 0 0, .inr (5, [.ref (L 1 0), .ref (L 20 0), .ref (L 21 0), .ref (L 22 0), .ref (L 23 0), va_rf tr, .int (((T_ticks N a) 0 0) 0), .int (((T_ticks N a) 0 0) 1), .int (((T_ticks N a) 0 0) 2), .int (((T_ticks N a) 0 0) 3), .int (((T_ticks N a) 0 0) 4), .int (((T_ticks N a) 0 0) 5)]))]) (ci := 5) (v := .int (((T_ticks N a) 0 0) 0)) (C := RX5) (T := TX5) (N := 12) hx hb hts tl_X5 hown hK (hP.one (Or.inl (tw_mem (f := 0) (i := 0) (by decide) rfl))) 0 rfl rfl 6 (by decide) (va_Nw.use rfl (te_f66 hE)) (fun _ h9 => h9) rfl dX8_step_28 ?_
    refine W.widen (k := 84 * cT tr * N) (n := 84 * pB tr Bd * N) (by show 0 + 84 * cT tr * N + 0 ≤ 84 * cT tr * N; omega) (by show 0 + 84 * pB tr Bd * N + 0 ≤ 84 * pB tr Bd * N; omega) ?_
    have g_1 : (((T_ticks N a) 0 0) 0) = T_ticks N a 0 0 0 := by
      rfl
    have g_2 : Hid L tr (T_ticks N a) κ9 τ9 := by
      exact hh9
    exact W.iret (v := ((T_ticks N a) 0 0) 0) hx hb hr (fun t ht hW => ⟨⟨(((T_ticks N a) 0 0) 0), (((T_ticks N a) 0 0) 0), rfl, rfl, ⟨κ9, τ9, g_1, g_2, by show mw _ _ _ _ t.heap; rw [ht]; exact hP⟩⟩, hS.F ht⟩) hS.2.2 dX8_step_31
  · rintro i ⟨κ9, τ9⟩ H locs ls hi ⟨hh9, hP, hS, hl⟩ ih
    have hl : lv_has ls 3 [(2, .int (nI i)), (0, .ref ob), (1, .int (nI N))] := hl
    have hP : mw (dC, dI) vwCl A (fun q e => TW cy L tr (T_ticks i a) κ9 τ9 q e ∨ oW ob (L 0 0) tp q e) H := hP
    have hh9 : Hid L tr (T_ticks i a) κ9 τ9 := hh9
    show W _ _ _ _ _ _ _ _ _ _ _ _ (0 + 84 * cT tr * i) (0 + 84 * pB tr Bd * i) _ _
    have hw1 : Wf (M + 84 * i) (T_ticks i a) := T_ticks_Wf hw hck i (by omega) (by omega)
    have hck1 : 0 ≤ (T_ticks i a 0 0 0).toInt := by rw [T_ticks_00 i hck (by omega)]; omega
    refine lv_iload_n hx hb dX8_step_6 rfl (lv_at hl 0 rfl) ?_
    refine lv_iload_n hx hb dX8_step_7 rfl (lv_at hl 2 rfl) ?_
    refine lv_icmp_ge (tgt := 24) hx hb dX8_step_8 (by decide) (fun c_2 => absurd c_2 (nI_ge hi (by omega))) (fun _ => ?_)
    refine lv_aload_n hx hb dX8_step_11 rfl (lv_at hl 1 rfl) ?_
    refine va_get (D := (dC, dI)) (ws := [(ob, .inr (8, [.ref (L 0 0), .ref tp]))]) (ci := 8) (v := .ref (L 0 0)) (C := RX8) (T := TX8) (N := 2) hx hb hts tl_X8 hown hK (hP.one (Or.inr oW_mem)) 0 rfl rfl 0 (by decide) (hts _ tw_922) (fun _ h9 => h9) rfl dX8_step_12 ?_
    have hFc := m_free (C := (TW cy L tr (T_ticks i a) κ9 τ9)) hP hS hA (fun _ _ h => (Or.inl h))
    refine va_callv (va_runV (As := []) (rest := []) ⟨hx, hb, hml, hown, hts⟩ (c_Traffic_tick l dC dI cy L tr (T_ticks i a) κ9 τ9 ((M + 84 * i)) Bd H.size hh9.1 hw1 hh9 (by omega) hck1 hB2) (tp_cwV 0 hts tw_162 tw_163 tw_164 tw_21 tw_165 rfl rfl (by decide +kernel) ⟨Nat.le_of_ble_eq_true rfl, Nat.le_of_ble_eq_true rfl⟩) ⟨m_blind, va_recv hK (hP.one (e := .inr (5, [.ref (L 1 0), .ref (L 20 0), .ref (L 21 0), .ref (L 22 0), .ref (L 23 0), va_rf tr, .int (((T_ticks i a) 0 0) 0), .int (((T_ticks i a) 0 0) 1), .int (((T_ticks i a) 0 0) 2), .int (((T_ticks i a) 0 0) 3), .int (((T_ticks i a) 0 0) 4), .int (((T_ticks i a) 0 0) 5)])) (Or.inl (tw_mem (f := 0) (i := 0) (by decide) rfl))) (ci := 5) (q0 := 0) rfl rfl, fun U hU hW => ⟨rfl, m_pay hK hP hE (fun _ _ h => (Or.inl h)) U hU hW⟩⟩ rfl rfl hl.1 rfl (lv_room (Nat.le_of_ble_eq_true rfl)) dX8_step_15 ⟨(m_stepc hi), (m_stepc hi)⟩) hS (fun q _ h => hFc q h) hFc (fun u t H1 locs ht hvm hpo hB hz1 hk1 hS => ?_)
    obtain ⟨z_1, z_2, f_1, hP1⟩ := hB
    rw [ht] at hP1
    have hP : mw (dC, dI) vwCl A (fun q e => TW cy L tr (T_tick (T_ticks i a)) z_1 z_2 q e ∨ oW ob (L 0 0) tp q e) H1 := hP.join (fun _ _ h => (Or.inl h)) hk1 hFc hP1 (fun q e h => (h.elim (fun h => Or.inl h) (fun h => Or.inr ⟨(Or.inr h), fun y hy => ow_dis hP (fun _ _ h => (Or.inl h)) (fun _ _ h => (Or.inr h)) h hy⟩)))
    generalize H1 = H at hP hS ⊢
    clear hP1 hk1 hFc
    have hh8 := f_1
    refine lv_iinc (v := nI (i + 1)) (lv' := [(2, .int (nI (i + 1))), (0, .ref ob), (1, .int (nI N))]) hx hb dX8_step_18 hl (k := 0) rfl (nI_1 i) (by decide) rfl (fun ls hl => ?_)
    refine lv_goto (tgt := 6) hx hb dX8_step_21 (by decide) ?_
    refine W.widen (k := (fun i => 0 + 84 * cT tr * i) (i + 1)) (n := (fun i => 0 + 84 * pB tr Bd * i) (i + 1)) (by show _ ≤ 0 + 84 * cT tr * (i + 1); rw [Nat.mul_succ]; omega) (by show _ ≤ 0 + 84 * pB tr Bd * (i + 1); rw [Nat.mul_succ]; omega) ?_
    exact ih (z_1, z_2) _ _ ls ⟨hh8, hP, hS, lv_sub hl [0, 1, 2] rfl⟩
