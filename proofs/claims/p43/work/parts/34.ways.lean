theorem tw_534 : Cond.methodLink RX8 135 yX2_costsTo ∈ tp_all := tp_mem 534 (by decide +kernel) rfl
theorem tw_539 : Cond.methodLink RX8 139 yX2_firstOfWay ∈ tp_all := tp_mem 539 (by decide +kernel) rfl
theorem tw_413 : Cond.code yX6_get cX6_get 4 (some .int) ∈ tp_all := tp_mem 413 (by decide +kernel) rfl
theorem tw_410 : Cond.methodLink RX8 173 yX6_get ∈ tp_all := tp_mem 410 (by decide +kernel) rfl
theorem tw_411 : Cond.instanceMethod yX6_get ∈ tp_all := tp_mem 411 (by decide +kernel) rfl
theorem tw_412 : Cond.selects RX6 yX6_get yX6_get ∈ tp_all := tp_mem 412 (by decide +kernel) rfl
theorem te_f65 {U : State} (h : tp_E U) : va_Nw (.fieldLinkNest "Turnpike" 164 "Turnpike$Traffic" "trails" "LTurnpike$Trails;" "Turnpike") U := h.1 _ (List.mem_of_getElem? (i := 65) rfl)
theorem dX8_distance_0 : decode cX8_distance 0 = .ok (.aload_n 0, 1) := by decide +kernel
theorem dX8_distance_1 : decode cX8_distance 1 = .ok (.iload_n 1, 1) := by decide +kernel
theorem dX8_distance_2 : decode cX8_distance 2 = .ok (.invokevirtual 32, 3) := by decide +kernel
theorem dX8_distance_5 : decode cX8_distance 5 = .ok (.aload_n 0, 1) := by decide +kernel
theorem dX8_distance_6 : decode cX8_distance 6 = .ok (.iload_n 2, 1) := by decide +kernel
theorem dX8_distance_7 : decode cX8_distance 7 = .ok (.invokevirtual 32, 3) := by decide +kernel
theorem dX8_distance_10 : decode cX8_distance 10 = .ok (.aload_n 0, 1) := by decide +kernel
theorem dX8_distance_11 : decode cX8_distance 11 = .ok (.getfield 12, 3) := by decide +kernel
theorem dX8_distance_14 : decode cX8_distance 14 = .ok (.getfield 43, 3) := by decide +kernel
theorem dX8_distance_17 : decode cX8_distance 17 = .ok (.iload_n 2, 1) := by decide +kernel
theorem dX8_distance_18 : decode cX8_distance 18 = .ok (.invokevirtual 135, 3) := by decide +kernel
theorem dX8_distance_21 : decode cX8_distance 21 = .ok (.iload_n 1, 1) := by decide +kernel
theorem dX8_distance_22 : decode cX8_distance 22 = .ok (.iaload, 1) := by decide +kernel
theorem dX8_distance_23 : decode cX8_distance 23 = .ok (.ireturn, 1) := by decide +kernel
theorem dX8_nextLink_0 : decode cX8_nextLink 0 = .ok (.aload_n 0, 1) := by decide +kernel
theorem dX8_nextLink_1 : decode cX8_nextLink 1 = .ok (.iload_n 1, 1) := by decide +kernel
theorem dX8_nextLink_2 : decode cX8_nextLink 2 = .ok (.invokevirtual 32, 3) := by decide +kernel
theorem dX8_nextLink_5 : decode cX8_nextLink 5 = .ok (.aload_n 0, 1) := by decide +kernel
theorem dX8_nextLink_6 : decode cX8_nextLink 6 = .ok (.iload_n 2, 1) := by decide +kernel
theorem dX8_nextLink_7 : decode cX8_nextLink 7 = .ok (.invokevirtual 32, 3) := by decide +kernel
theorem dX8_nextLink_10 : decode cX8_nextLink 10 = .ok (.aload_n 0, 1) := by decide +kernel
theorem dX8_nextLink_11 : decode cX8_nextLink 11 = .ok (.getfield 12, 3) := by decide +kernel
theorem dX8_nextLink_14 : decode cX8_nextLink 14 = .ok (.getfield 43, 3) := by decide +kernel
theorem dX8_nextLink_17 : decode cX8_nextLink 17 = .ok (.iload_n 1, 1) := by decide +kernel
theorem dX8_nextLink_18 : decode cX8_nextLink 18 = .ok (.iload_n 2, 1) := by decide +kernel
theorem dX8_nextLink_19 : decode cX8_nextLink 19 = .ok (.invokevirtual 139, 3) := by decide +kernel
theorem dX8_nextLink_22 : decode cX8_nextLink 22 = .ok (.ireturn, 1) := by decide +kernel
theorem dX8_linkAt_0 : decode cX8_linkAt 0 = .ok (.aload_n 0, 1) := by decide +kernel
theorem dX8_linkAt_1 : decode cX8_linkAt 1 = .ok (.iload_n 1, 1) := by decide +kernel
theorem dX8_linkAt_2 : decode cX8_linkAt 2 = .ok (.invokevirtual 146, 3) := by decide +kernel
theorem dX8_linkAt_5 : decode cX8_linkAt 5 = .ok (.astore_n 3, 1) := by decide +kernel
theorem dX8_linkAt_6 : decode cX8_linkAt 6 = .ok (.iload_n 2, 1) := by decide +kernel
theorem dX8_linkAt_7 : decode cX8_linkAt 7 = .ok (.ifCond .lt 21, 3) := by decide +kernel
theorem dX8_linkAt_10 : decode cX8_linkAt 10 = .ok (.iload_n 2, 1) := by decide +kernel
theorem dX8_linkAt_11 : decode cX8_linkAt 11 = .ok (.aload_n 3, 1) := by decide +kernel
theorem dX8_linkAt_12 : decode cX8_linkAt 12 = .ok (.getfield 161, 3) := by decide +kernel
theorem dX8_linkAt_15 : decode cX8_linkAt 15 = .ok (.if_icmp .ge 13, 3) := by decide +kernel
theorem dX8_linkAt_18 : decode cX8_linkAt 18 = .ok (.aload_n 0, 1) := by decide +kernel
theorem dX8_linkAt_19 : decode cX8_linkAt 19 = .ok (.getfield 12, 3) := by decide +kernel
theorem dX8_linkAt_22 : decode cX8_linkAt 22 = .ok (.getfield 164, 3) := by decide +kernel
theorem dX8_linkAt_25 : decode cX8_linkAt 25 = .ok (.ifnonnull 13, 3) := by decide +kernel
theorem dX8_linkAt_38 : decode cX8_linkAt 38 = .ok (.aload_n 0, 1) := by decide +kernel
theorem dX8_linkAt_39 : decode cX8_linkAt 39 = .ok (.getfield 12, 3) := by decide +kernel
theorem dX8_linkAt_42 : decode cX8_linkAt 42 = .ok (.getfield 164, 3) := by decide +kernel
theorem dX8_linkAt_45 : decode cX8_linkAt 45 = .ok (.iload_n 1, 1) := by decide +kernel
theorem dX8_linkAt_46 : decode cX8_linkAt 46 = .ok (.iload_n 2, 1) := by decide +kernel
theorem dX8_linkAt_47 : decode cX8_linkAt 47 = .ok (.invokevirtual 173, 3) := by decide +kernel
theorem dX8_linkAt_50 : decode cX8_linkAt 50 = .ok (.ireturn, 1) := by decide +kernel
set_option maxRecDepth 100000 in
set_option maxHeartbeats 4000000 in
/-- distance -/
theorem c_distance (l : Launch) (dC : Nat → ClassId) (dI : Nat → Nat → Nat) (cy : Nat → ClassId) (L : Lay) (tr : Option Nat) (a : St) (κ : Kap) (τ : Tau) (ob : Nat) (tp : Nat) (M : Nat) (fr : Int32) (to : Int32) (sz : Nat) (hT : TL L tr τ) (hw : Wf M a) (hf : ¬ N_no a fr) (hg : ¬ N_no a to) (hκ : CV a κ) : Met l yX8_distance (tp_w yX8_distance cX8_distance 3 (some .int)) ({ frames := 2, cells := 0, slots := 0, locals := 51 }) (va_Pc [.ref ob, .int fr, .int to] (mPre dC dI cy (fun q e => TW cy L tr a κ τ q e ∨ oW ob (L 0 0) tp q e) sz)) (va_Qi (fun (r u : Int32) => r = u) (fun (u : Int32) (t : State) => ∃ (κ2 : Kap), (u = bf a to.toNatClampNeg fr.toNatClampNeg) ∧ (CV a κ2) ∧ mw (dC, dI) vwCl (mA (fun q e => TW cy L tr a κ τ q e ∨ oW ob (L 0 0) tp q e) sz) (fun q e => TW cy L tr a κ2 τ q e ∨ oW ob (L 0 0) tp q e) t.heap) (mA (fun q e => TW cy L tr a κ τ q e ∨ oW ob (L 0 0) tp q e) sz)) (0) (0) (mA (fun q e => TW cy L tr a κ τ q e ∨ oW ob (L 0 0) tp q e) sz) := by
  refine Met.ofW (cc := cX8_distance) (maxL := 3) (ret := (some .int)) (by decide) rfl ?_
  intro p e s m args below meth c s₁ B hml hv
  obtain ⟨rfl, hsz, hP, hK, hE⟩ := hv
  have hx := B.exec
  have hb := B.bytes
  have hr := B.returns
  have hts0 := atoms_spec (ws := tp_w yX8_distance cX8_distance 3 (some .int)) B.pre
  have hts : ∀ w ∈ tp_all, w.before _ s = true := fun w h => hts0 w (List.mem_cons_of_mem _ h)
  have hown : s.vm.findClass RX8 = some m.cls := findClass_of_methodNamed B.named
  have hlocks := B.notSynchronized
  subst hsz
  have hP := hP.self s.heap.size
  generalize hAe : mA (fun q e => TW cy L tr a κ τ q e ∨ oW ob (L 0 0) tp q e) s.heap.size = A at hP ⊢
  have hA : ∀ q : Nat, s.heap.size ≤ q → A q := fun q h => by rw [← hAe]; exact Or.inr h
  have hS : va_S A s.heap s.heap [] := va_S.rf
  have hl9 := lv_entry ([.ref ob, .int fr, .int to]) (n := 3) (Nat.le_of_ble_eq_true rfl)
  rw [lg_entry_eq]
  generalize (lg_sl ([.ref ob, .int fr, .int to]) ++ List.replicate (3 - (lg_sl ([.ref ob, .int fr, .int to])).length) Slot.unset).toArray = ls at hl9 ⊢
  have hl : lv_has ls 3 [(0, .ref ob), (1, .int fr), (2, .int to)] := hl9
  refine lv_aload_n hx hb dX8_distance_0 rfl (lv_at hl 0 rfl) ?_
  refine lv_iload_n hx hb dX8_distance_1 rfl (lv_at hl 1 rfl) ?_
  have hFc := m_free (C := (fun q e => TW cy L tr a κ τ q e ∨ oW ob (L 0 0) tp q e)) hP hS hA (fun _ _ h => h)
  refine va_callv (va_runV (As := [.int fr]) (rest := []) ⟨hx, hb, hml, hown, hts⟩ (c_checkNode l dC dI cy L tr a κ τ ob tp fr s.heap.size hT hf) (tp_cwV 1 hts tw_426 tw_428 tw_13 tw_20 tw_429 rfl rfl (by decide +kernel) ⟨Nat.le_of_ble_eq_true rfl, Nat.le_of_ble_eq_true rfl⟩) ⟨m_blind, va_recv hK (hP.one (e := .inr (8, [.ref (L 0 0), .ref tp])) (Or.inr oW_mem)) (ci := 8) (q0 := 0) rfl rfl, fun U hU hW => ⟨rfl, m_pay hK hP hE (fun _ _ h => h) U hU hW⟩⟩ rfl rfl hl.1 rfl (lv_room (Nat.le_of_ble_eq_true rfl)) dX8_distance_2 ⟨(Nat.le_of_ble_eq_true rfl), (Nat.le_of_ble_eq_true rfl)⟩) hS (fun q _ h => hFc q h) hFc (fun u t H1 locs ht hvm hpo hB hz1 hk1 hS => ?_)
  have hP1 := hB
  rw [ht] at hP1
  have hP : mw (dC, dI) vwCl A (fun q e => TW cy L tr a κ τ q e ∨ oW ob (L 0 0) tp q e) H1 := hP.join (fun _ _ h => h) hk1 hFc hP1 (fun _ _ h => Or.inl h)
  generalize H1 = H at hP hS ⊢
  clear hP1 hk1 hFc
  refine lv_aload_n hx hb dX8_distance_5 rfl (lv_at hl 0 rfl) ?_
  refine lv_iload_n hx hb dX8_distance_6 rfl (lv_at hl 2 rfl) ?_
  have hFc := m_free (C := (fun q e => TW cy L tr a κ τ q e ∨ oW ob (L 0 0) tp q e)) hP hS hA (fun _ _ h => h)
  refine va_callv (va_runV (As := [.int to]) (rest := []) ⟨hx, hb, hml, hown, hts⟩ (c_checkNode l dC dI cy L tr a κ τ ob tp to H.size hT hg) (tp_cwV 1 hts tw_426 tw_428 tw_13 tw_20 tw_429 rfl rfl (by decide +kernel) ⟨Nat.le_of_ble_eq_true rfl, Nat.le_of_ble_eq_true rfl⟩) ⟨m_blind, va_recv hK (hP.one (e := .inr (8, [.ref (L 0 0), .ref tp])) (Or.inr oW_mem)) (ci := 8) (q0 := 0) rfl rfl, fun U hU hW => ⟨rfl, m_pay hK hP hE (fun _ _ h => h) U hU hW⟩⟩ rfl rfl hl.1 rfl (lv_room (Nat.le_of_ble_eq_true rfl)) dX8_distance_7 ⟨(Nat.le_of_ble_eq_true rfl), (Nat.le_of_ble_eq_true rfl)⟩) hS (fun q _ h => hFc q h) hFc (fun u t H1 locs ht hvm hpo hB hz1 hk1 hS => ?_)
  have hP1 := hB
  rw [ht] at hP1
  have hP : mw (dC, dI) vwCl A (fun q e => TW cy L tr a κ τ q e ∨ oW ob (L 0 0) tp q e) H1 := hP.join (fun _ _ h => h) hk1 hFc hP1 (fun _ _ h => Or.inl h)
  generalize H1 = H at hP hS ⊢
  clear hP1 hk1 hFc
  refine lv_aload_n hx hb dX8_distance_10 rfl (lv_at hl 0 rfl) ?_
  refine va_get (D := (dC, dI)) (ws := [(ob, .inr (8, [.ref (L 0 0), .ref tp]))]) (ci := 8) (v := .ref (L 0 0)) (C := RX8) (T := TX8) (N := 2) hx hb hts tl_X8 hown hK (hP.one (Or.inr oW_mem)) 0 rfl rfl 0 (by decide) (hts _ tw_922) (fun _ h9 => h9) rfl dX8_distance_11 ?_
  refine va_getN (D := (dC, dI)) (ws := [(L 0 0, .inr (5, [.ref (L 1 0), .ref (L 20 0), .ref (L 21 0), .ref (L 22 0), .ref (L 23 0), va_rf tr, .int ((a 0 0) 0), .int ((a 0 0) 1), .int ((a 0 0) 2), .int ((a 0 0) 3), .int ((a 0 0) 4), .int ((a 0 0) 5)]))]) (ci := 5) (v := .ref (L 1 0)) (C := RX5) (T := TX5) (N := 12) hx hb hts tl_X5 hown hK (hP.one (Or.inl (tw_mem (f := 0) (i := 0) (by decide) rfl))) 0 rfl rfl 0 (by decide) (va_Nw.use rfl (te_f60 hE)) (fun _ h9 => h9) rfl dX8_distance_14 ?_
  refine lv_iload_n hx hb dX8_distance_17 rfl (lv_at hl 2 rfl) ?_
  have hFc := m_free (C := (TW cy L tr a κ τ)) hP hS hA (fun _ _ h => (Or.inl h))
  refine va_callr (va_runV (As := [.int to]) (rest := []) ⟨hx, hb, hml, hown, hts⟩ (c_Roads_costsTo l dC dI cy L tr a κ τ M to H.size hT hw (N_in hw hg) hκ) (tp_cwV 1 hts tw_534 tw_217 tw_218 tw_22 tw_219 rfl rfl (by decide +kernel) ⟨Nat.le_of_ble_eq_true rfl, Nat.le_of_ble_eq_true rfl⟩) ⟨m_blind, va_recv hK (hP.one (e := .inr (2, [.ref (L 24 0), .int ((a 1 0) 0), .ref (L 25 0), .int κ.1])) (Or.inl (tw_mem (f := 1) (i := 0) (by decide) rfl))) (ci := 2) (q0 := 0) rfl rfl, fun U hU hW => ⟨rfl, m_pay hK hP hE (fun _ _ h => (Or.inl h)) U hU hW⟩⟩ rfl rfl hl.1 rfl (lv_room (Nat.le_of_ble_eq_true rfl)) dX8_distance_18 ⟨(Nat.le_of_ble_eq_true rfl), (Nat.le_of_ble_eq_true rfl)⟩) hS (fun q _ h => hFc q h) hFc (fun u r_3 t H1 locs ht hvm hpo hB hz1 hk1 hS => ?_)
  obtain ⟨z_1, f_1, f_2, f_3, hP1⟩ := hB
  subst f_1
  rw [ht] at hP1
  have hP : mw (dC, dI) vwCl A (fun q e => TW cy L tr a z_1 τ q e ∨ oW ob (L 0 0) tp q e) H1 := hP.join (fun _ _ h => (Or.inl h)) hk1 hFc hP1 (fun q e h => (h.elim (fun h => Or.inl h) (fun h => Or.inr ⟨(Or.inr h), fun y hy => ow_dis hP (fun _ _ h => (Or.inl h)) (fun _ _ h => (Or.inr h)) h hy⟩)))
  generalize H1 = H at hP hS ⊢
  clear hP1 hk1 hFc
  refine lv_iload_n hx hb dX8_distance_21 rfl (lv_at hl 1 rfl) ?_
  have j_1 : (fr : Int32).toNatClampNeg = fr.toNatClampNeg := m_cl (m_nI (fun h => hf (Or.inl h))) (N_lt hw hf) (by decide)
  refine va_iald hx hb hK (ws := [(L 17 to.toNatClampNeg, .inl (cy 0, 12, .inl (z_1.2 to.toNatClampNeg)))]) (hP.one (Or.inl (tw_mem (f := 17) (i := to.toNatClampNeg) (N_lt hw hg) rfl))) 0 0 rfl rfl (m_in (m_nI (fun h => hf (Or.inl h))) (N_lt hw hf) (by decide)) dX8_distance_22 ?_
  refine W.eq (g2 := F0 m 23 ls [.int ((z_1.2 to.toNatClampNeg) fr.toNatClampNeg)]) (by first | (rw [j_1]; done) | (rw [j_1]; rfl)) ?_
  refine W.eq (g2 := F0 m 23 ls [.int (bf a to.toNatClampNeg fr.toNatClampNeg)]) (by rw [f_3]) ?_
  refine W.widen (k := 0) (n := 0) (Nat.le_of_ble_eq_true rfl) (Nat.le_of_ble_eq_true rfl) ?_
  have g_1 : (bf a to.toNatClampNeg fr.toNatClampNeg) = bf a to.toNatClampNeg fr.toNatClampNeg := by
    rfl
  have g_2 : CV a z_1 := by
    exact f_2
  exact W.iret (v := bf a to.toNatClampNeg fr.toNatClampNeg) hx hb hr (fun t ht hW => ⟨⟨(bf a to.toNatClampNeg fr.toNatClampNeg), (bf a to.toNatClampNeg fr.toNatClampNeg), rfl, rfl, ⟨z_1, g_1, g_2, by show mw _ _ _ _ t.heap; rw [ht]; exact hP⟩⟩, hS.F ht⟩) hS.2.2 dX8_distance_23
set_option maxRecDepth 100000 in
set_option maxHeartbeats 4000000 in
/-- nextLink -/
theorem c_nextLink (l : Launch) (dC : Nat → ClassId) (dI : Nat → Nat → Nat) (cy : Nat → ClassId) (L : Lay) (tr : Option Nat) (a : St) (κ : Kap) (τ : Tau) (ob : Nat) (tp : Nat) (M : Nat) (fr : Int32) (to : Int32) (sz : Nat) (hT : TL L tr τ) (hw : Wf M a) (hf : ¬ N_no a fr) (hg : ¬ N_no a to) (hκ : CV a κ) : Met l yX8_nextLink (tp_w yX8_nextLink cX8_nextLink 3 (some .int)) ({ frames := 3, cells := 0, slots := 0, locals := 77 }) (va_Pc [.ref ob, .int fr, .int to] (mPre dC dI cy (fun q e => TW cy L tr a κ τ q e ∨ oW ob (L 0 0) tp q e) sz)) (va_Qi (fun (r u : Int32) => r = u) (fun (u : Int32) (t : State) => ∃ (κ2 : Kap), (u = G_first a fr to) ∧ (CV a κ2) ∧ mw (dC, dI) vwCl (mA (fun q e => TW cy L tr a κ τ q e ∨ oW ob (L 0 0) tp q e) sz) (fun q e => TW cy L tr a κ2 τ q e ∨ oW ob (L 0 0) tp q e) t.heap) (mA (fun q e => TW cy L tr a κ τ q e ∨ oW ob (L 0 0) tp q e) sz)) (0) (0) (mA (fun q e => TW cy L tr a κ τ q e ∨ oW ob (L 0 0) tp q e) sz) := by
  refine Met.ofW (cc := cX8_nextLink) (maxL := 3) (ret := (some .int)) (by decide) rfl ?_
  intro p e s m args below meth c s₁ B hml hv
  obtain ⟨rfl, hsz, hP, hK, hE⟩ := hv
  have hx := B.exec
  have hb := B.bytes
  have hr := B.returns
  have hts0 := atoms_spec (ws := tp_w yX8_nextLink cX8_nextLink 3 (some .int)) B.pre
  have hts : ∀ w ∈ tp_all, w.before _ s = true := fun w h => hts0 w (List.mem_cons_of_mem _ h)
  have hown : s.vm.findClass RX8 = some m.cls := findClass_of_methodNamed B.named
  have hlocks := B.notSynchronized
  subst hsz
  have hP := hP.self s.heap.size
  generalize hAe : mA (fun q e => TW cy L tr a κ τ q e ∨ oW ob (L 0 0) tp q e) s.heap.size = A at hP ⊢
  have hA : ∀ q : Nat, s.heap.size ≤ q → A q := fun q h => by rw [← hAe]; exact Or.inr h
  have hS : va_S A s.heap s.heap [] := va_S.rf
  have hl9 := lv_entry ([.ref ob, .int fr, .int to]) (n := 3) (Nat.le_of_ble_eq_true rfl)
  rw [lg_entry_eq]
  generalize (lg_sl ([.ref ob, .int fr, .int to]) ++ List.replicate (3 - (lg_sl ([.ref ob, .int fr, .int to])).length) Slot.unset).toArray = ls at hl9 ⊢
  have hl : lv_has ls 3 [(0, .ref ob), (1, .int fr), (2, .int to)] := hl9
  refine lv_aload_n hx hb dX8_nextLink_0 rfl (lv_at hl 0 rfl) ?_
  refine lv_iload_n hx hb dX8_nextLink_1 rfl (lv_at hl 1 rfl) ?_
  have hFc := m_free (C := (fun q e => TW cy L tr a κ τ q e ∨ oW ob (L 0 0) tp q e)) hP hS hA (fun _ _ h => h)
  refine va_callv (va_runV (As := [.int fr]) (rest := []) ⟨hx, hb, hml, hown, hts⟩ (c_checkNode l dC dI cy L tr a κ τ ob tp fr s.heap.size hT hf) (tp_cwV 1 hts tw_426 tw_428 tw_13 tw_20 tw_429 rfl rfl (by decide +kernel) ⟨Nat.le_of_ble_eq_true rfl, Nat.le_of_ble_eq_true rfl⟩) ⟨m_blind, va_recv hK (hP.one (e := .inr (8, [.ref (L 0 0), .ref tp])) (Or.inr oW_mem)) (ci := 8) (q0 := 0) rfl rfl, fun U hU hW => ⟨rfl, m_pay hK hP hE (fun _ _ h => h) U hU hW⟩⟩ rfl rfl hl.1 rfl (lv_room (Nat.le_of_ble_eq_true rfl)) dX8_nextLink_2 ⟨(Nat.le_of_ble_eq_true rfl), (Nat.le_of_ble_eq_true rfl)⟩) hS (fun q _ h => hFc q h) hFc (fun u t H1 locs ht hvm hpo hB hz1 hk1 hS => ?_)
  have hP1 := hB
  rw [ht] at hP1
  have hP : mw (dC, dI) vwCl A (fun q e => TW cy L tr a κ τ q e ∨ oW ob (L 0 0) tp q e) H1 := hP.join (fun _ _ h => h) hk1 hFc hP1 (fun _ _ h => Or.inl h)
  generalize H1 = H at hP hS ⊢
  clear hP1 hk1 hFc
  refine lv_aload_n hx hb dX8_nextLink_5 rfl (lv_at hl 0 rfl) ?_
  refine lv_iload_n hx hb dX8_nextLink_6 rfl (lv_at hl 2 rfl) ?_
  have hFc := m_free (C := (fun q e => TW cy L tr a κ τ q e ∨ oW ob (L 0 0) tp q e)) hP hS hA (fun _ _ h => h)
  refine va_callv (va_runV (As := [.int to]) (rest := []) ⟨hx, hb, hml, hown, hts⟩ (c_checkNode l dC dI cy L tr a κ τ ob tp to H.size hT hg) (tp_cwV 1 hts tw_426 tw_428 tw_13 tw_20 tw_429 rfl rfl (by decide +kernel) ⟨Nat.le_of_ble_eq_true rfl, Nat.le_of_ble_eq_true rfl⟩) ⟨m_blind, va_recv hK (hP.one (e := .inr (8, [.ref (L 0 0), .ref tp])) (Or.inr oW_mem)) (ci := 8) (q0 := 0) rfl rfl, fun U hU hW => ⟨rfl, m_pay hK hP hE (fun _ _ h => h) U hU hW⟩⟩ rfl rfl hl.1 rfl (lv_room (Nat.le_of_ble_eq_true rfl)) dX8_nextLink_7 ⟨(Nat.le_of_ble_eq_true rfl), (Nat.le_of_ble_eq_true rfl)⟩) hS (fun q _ h => hFc q h) hFc (fun u t H1 locs ht hvm hpo hB hz1 hk1 hS => ?_)
  have hP1 := hB
  rw [ht] at hP1
  have hP : mw (dC, dI) vwCl A (fun q e => TW cy L tr a κ τ q e ∨ oW ob (L 0 0) tp q e) H1 := hP.join (fun _ _ h => h) hk1 hFc hP1 (fun _ _ h => Or.inl h)
  generalize H1 = H at hP hS ⊢
  clear hP1 hk1 hFc
  refine lv_aload_n hx hb dX8_nextLink_10 rfl (lv_at hl 0 rfl) ?_
  refine va_get (D := (dC, dI)) (ws := [(ob, .inr (8, [.ref (L 0 0), .ref tp]))]) (ci := 8) (v := .ref (L 0 0)) (C := RX8) (T := TX8) (N := 2) hx hb hts tl_X8 hown hK (hP.one (Or.inr oW_mem)) 0 rfl rfl 0 (by decide) (hts _ tw_922) (fun _ h9 => h9) rfl dX8_nextLink_11 ?_
  refine va_getN (D := (dC, dI)) (ws := [(L 0 0, .inr (5, [.ref (L 1 0), .ref (L 20 0), .ref (L 21 0), .ref (L 22 0), .ref (L 23 0), va_rf tr, .int ((a 0 0) 0), .int ((a 0 0) 1), .int ((a 0 0) 2), .int ((a 0 0) 3), .int ((a 0 0) 4), .int ((a 0 0) 5)]))]) (ci := 5) (v := .ref (L 1 0)) (C := RX5) (T := TX5) (N := 12) hx hb hts tl_X5 hown hK (hP.one (Or.inl (tw_mem (f := 0) (i := 0) (by decide) rfl))) 0 rfl rfl 0 (by decide) (va_Nw.use rfl (te_f60 hE)) (fun _ h9 => h9) rfl dX8_nextLink_14 ?_
  refine lv_iload_n hx hb dX8_nextLink_17 rfl (lv_at hl 1 rfl) ?_
  refine lv_iload_n hx hb dX8_nextLink_18 rfl (lv_at hl 2 rfl) ?_
  have hFc := m_free (C := (TW cy L tr a κ τ)) hP hS hA (fun _ _ h => (Or.inl h))
  refine va_calli (va_runV (As := [.int fr, .int to]) (rest := []) ⟨hx, hb, hml, hown, hts⟩ (c_Roads_firstOfWay l dC dI cy L tr a κ τ M fr to H.size hT hw (N_in hw hf) (N_in hw hg) hκ) (tp_cwV 2 hts tw_539 tw_213 tw_214 tw_22 tw_215 rfl rfl (by decide +kernel) ⟨Nat.le_of_ble_eq_true rfl, Nat.le_of_ble_eq_true rfl⟩) ⟨m_blind, va_recv hK (hP.one (e := .inr (2, [.ref (L 24 0), .int ((a 1 0) 0), .ref (L 25 0), .int κ.1])) (Or.inl (tw_mem (f := 1) (i := 0) (by decide) rfl))) (ci := 2) (q0 := 0) rfl rfl, fun U hU hW => ⟨rfl, m_pay hK hP hE (fun _ _ h => (Or.inl h)) U hU hW⟩⟩ rfl rfl hl.1 rfl (lv_room (Nat.le_of_ble_eq_true rfl)) dX8_nextLink_19 ⟨(Nat.le_of_ble_eq_true rfl), (Nat.le_of_ble_eq_true rfl)⟩) hS (fun q _ h => hFc q h) hFc (fun r_3 u t H1 locs ht hvm hpo hB hz1 hk1 hS => ?_)
  obtain rfl := hpo
  obtain ⟨z_1, f_1, f_2, hP1⟩ := hB
  subst f_1
  rw [ht] at hP1
  have hP : mw (dC, dI) vwCl A (fun q e => TW cy L tr a z_1 τ q e ∨ oW ob (L 0 0) tp q e) H1 := hP.join (fun _ _ h => (Or.inl h)) hk1 hFc hP1 (fun q e h => (h.elim (fun h => Or.inl h) (fun h => Or.inr ⟨(Or.inr h), fun y hy => ow_dis hP (fun _ _ h => (Or.inl h)) (fun _ _ h => (Or.inr h)) h hy⟩)))
  generalize H1 = H at hP hS ⊢
  clear hP1 hk1 hFc
  refine W.widen (k := 0) (n := 0) (Nat.le_of_ble_eq_true rfl) (Nat.le_of_ble_eq_true rfl) ?_
  have g_1 : (G_first a fr to) = G_first a fr to := by
    rfl
  have g_2 : CV a z_1 := by
    exact f_2
  exact W.iret (v := G_first a fr to) hx hb hr (fun t ht hW => ⟨⟨(G_first a fr to), (G_first a fr to), rfl, rfl, ⟨z_1, g_1, g_2, by show mw _ _ _ _ t.heap; rw [ht]; exact hP⟩⟩, hS.F ht⟩) hS.2.2 dX8_nextLink_22
set_option maxRecDepth 100000 in
set_option maxHeartbeats 4000000 in
/-- linkAt -/
theorem c_linkAt (l : Launch) (dC : Nat → ClassId) (dI : Nat → Nat → Nat) (cy : Nat → ClassId) (L : Lay) (t0 : Nat) (a : St) (κ : Kap) (τ : Tau) (ob : Nat) (tp : Nat) (M : Nat) (n : Int32) (pl : Int32) (j : Nat) (sz : Nat) (hT : TL L (some t0) τ) (hw : Wf M a) (hf : ¬ T_no a n) (hM : M < 30000) (hpl : pl = nI j) (hj : j < (a 15 n.toNatClampNeg 7).toNatClampNeg) (hg : TRg (fun v => (a 15 v 7).toNatClampNeg) (fun v j => (a 30 v j).toNatClampNeg) τ) : Met l yX8_linkAt (tp_w yX8_linkAt cX8_linkAt 4 (some .int)) ({ frames := 2, cells := 0, slots := 0, locals := 45 }) (va_Pc [.ref ob, .int n, .int pl] (mPre dC dI cy (fun q e => TW cy L ((some t0)) a κ τ q e ∨ oW ob (L 0 0) tp q e) sz)) (va_Qi (fun (r u : Int32) => r = u) (fun (u : Int32) (t : State) => (u = nI (a 30 n.toNatClampNeg j).toNatClampNeg) ∧ mw (dC, dI) vwCl (mA (fun q e => TW cy L ((some t0)) a κ τ q e ∨ oW ob (L 0 0) tp q e) sz) (fun q e => TW cy L ((some t0)) a κ τ q e ∨ oW ob (L 0 0) tp q e) t.heap) (mA (fun q e => TW cy L ((some t0)) a κ τ q e ∨ oW ob (L 0 0) tp q e) sz)) (0) (0) (mA (fun q e => TW cy L ((some t0)) a κ τ q e ∨ oW ob (L 0 0) tp q e) sz) := by
  refine Met.ofW (cc := cX8_linkAt) (maxL := 4) (ret := (some .int)) (by decide) rfl ?_
  intro p e s m args below meth c s₁ B hml hv
  obtain ⟨rfl, hsz, hP, hK, hE⟩ := hv
  have hx := B.exec
  have hb := B.bytes
  have hr := B.returns
  have hts0 := atoms_spec (ws := tp_w yX8_linkAt cX8_linkAt 4 (some .int)) B.pre
  have hts : ∀ w ∈ tp_all, w.before _ s = true := fun w h => hts0 w (List.mem_cons_of_mem _ h)
  have hown : s.vm.findClass RX8 = some m.cls := findClass_of_methodNamed B.named
  have hlocks := B.notSynchronized
  subst hsz
  have hP := hP.self s.heap.size
  generalize hAe : mA (fun q e => TW cy L ((some t0)) a κ τ q e ∨ oW ob (L 0 0) tp q e) s.heap.size = A at hP ⊢
  have hA : ∀ q : Nat, s.heap.size ≤ q → A q := fun q h => by rw [← hAe]; exact Or.inr h
  have hS : va_S A s.heap s.heap [] := va_S.rf
  have hl9 := lv_entry ([.ref ob, .int n, .int pl]) (n := 4) (Nat.le_of_ble_eq_true rfl)
  rw [lg_entry_eq]
  generalize (lg_sl ([.ref ob, .int n, .int pl]) ++ List.replicate (4 - (lg_sl ([.ref ob, .int n, .int pl])).length) Slot.unset).toArray = ls at hl9 ⊢
  have hl : lv_has ls 4 [(0, .ref ob), (1, .int n), (2, .int pl)] := hl9
  refine lv_aload_n hx hb dX8_linkAt_0 rfl (lv_at hl 0 rfl) ?_
  refine lv_iload_n hx hb dX8_linkAt_1 rfl (lv_at hl 1 rfl) ?_
  have hFc := m_free (C := (fun q e => TW cy L ((some t0)) a κ τ q e ∨ oW ob (L 0 0) tp q e)) hP hS hA (fun _ _ h => h)
  refine va_callr (va_runV (As := [.int n]) (rest := []) ⟨hx, hb, hml, hown, hts⟩ (c_vehicleNumbered l dC dI cy L ((some t0)) a κ τ ob tp M n s.heap.size hT hw hf) (tp_cwV 1 hts tw_387 tw_389 tw_12 tw_20 tw_390 rfl rfl (by decide +kernel) ⟨Nat.le_of_ble_eq_true rfl, Nat.le_of_ble_eq_true rfl⟩) ⟨m_blind, va_recv hK (hP.one (e := .inr (8, [.ref (L 0 0), .ref tp])) (Or.inr oW_mem)) (ci := 8) (q0 := 0) rfl rfl, fun U hU hW => ⟨rfl, m_pay hK hP hE (fun _ _ h => h) U hU hW⟩⟩ rfl rfl hl.1 rfl (lv_room (Nat.le_of_ble_eq_true rfl)) dX8_linkAt_2 ⟨(Nat.le_of_ble_eq_true rfl), (Nat.le_of_ble_eq_true rfl)⟩) hS (fun q _ h => hFc q h) hFc (fun u r_1 t H1 locs ht hvm hpo hB hz1 hk1 hS => ?_)
  obtain ⟨f_1, hP1⟩ := hB
  subst f_1
  rw [ht] at hP1
  have hP : mw (dC, dI) vwCl A (fun q e => TW cy L ((some t0)) a κ τ q e ∨ oW ob (L 0 0) tp q e) H1 := hP.join (fun _ _ h => h) hk1 hFc hP1 (fun _ _ h => Or.inl h)
  generalize H1 = H at hP hS ⊢
  clear hP1 hk1 hFc
  refine lv_astore_n (lv' := [(3, .ref (L 15 n.toNatClampNeg)), (0, .ref ob), (1, .int n), (2, .int pl)]) hx hb dX8_linkAt_5 rfl hl (by decide) rfl (fun ls hl => ?_)
  refine lv_iload_n hx hb dX8_linkAt_6 rfl (lv_at hl 3 rfl) ?_
  refine lv_if_lt (tgt := 28) hx hb dX8_linkAt_7 (by decide) (fun c_1 => absurd c_1 (by rw [hpl]; exact nI_pos (by have := in_le (hw.2.2.2.2 _ (T_lt hw hf)).2.2; omega))) (fun _ => ?_)
  refine lv_iload_n hx hb dX8_linkAt_10 rfl (lv_at hl 3 rfl) ?_
  refine lv_aload_n hx hb dX8_linkAt_11 rfl (lv_at hl 0 rfl) ?_
  refine va_getN (D := (dC, dI)) (ws := [(L 15 n.toNatClampNeg, .inr (7, [.int ((a 15 n.toNatClampNeg) 0), .int ((a 15 n.toNatClampNeg) 1), .int ((a 15 n.toNatClampNeg) 2), .int ((a 15 n.toNatClampNeg) 3), .int ((a 15 n.toNatClampNeg) 4), .int ((a 15 n.toNatClampNeg) 5), .int ((a 15 n.toNatClampNeg) 6), .int ((a 15 n.toNatClampNeg) 7), .int ((a 15 n.toNatClampNeg) 8), .int ((a 15 n.toNatClampNeg) 9), .int ((a 15 n.toNatClampNeg) 10), .int ((a 15 n.toNatClampNeg) 11), .ref (L 16 n.toNatClampNeg)]))]) (ci := 7) (v := .int ((a 15 n.toNatClampNeg) 7)) (C := RX7) (T := TX7) (N := 13) hx hb hts tl_X7 hown hK (hP.one (Or.inl (tw_mem (f := 15) (i := n.toNatClampNeg) (T_lt hw hf) rfl))) 0 rfl rfl 7 (by decide) (va_Nw.use rfl (te_f55 hE)) (fun _ h9 => h9) rfl dX8_linkAt_12 ?_
  refine lv_icmp_ge (tgt := 28) hx hb dX8_linkAt_15 (by decide) (fun c_2 => absurd c_2 (by rw [hpl]; exact nI_ltz hj (hw.2.2.2.2 _ (T_lt hw hf)).2.2)) (fun _ => ?_)
  refine lv_aload_n hx hb dX8_linkAt_18 rfl (lv_at hl 1 rfl) ?_
  refine va_get (D := (dC, dI)) (ws := [(ob, .inr (8, [.ref (L 0 0), .ref tp]))]) (ci := 8) (v := .ref (L 0 0)) (C := RX8) (T := TX8) (N := 2) hx hb hts tl_X8 hown hK (hP.one (Or.inr oW_mem)) 0 rfl rfl 0 (by decide) (hts _ tw_922) (fun _ h9 => h9) rfl dX8_linkAt_19 ?_
  refine va_getN (D := (dC, dI)) (ws := [(L 0 0, .inr (5, [.ref (L 1 0), .ref (L 20 0), .ref (L 21 0), .ref (L 22 0), .ref (L 23 0), .ref t0, .int ((a 0 0) 0), .int ((a 0 0) 1), .int ((a 0 0) 2), .int ((a 0 0) 3), .int ((a 0 0) 4), .int ((a 0 0) 5)]))]) (ci := 5) (v := .ref t0) (C := RX5) (T := TX5) (N := 12) hx hb hts tl_X5 hown hK (hP.one (Or.inl (tw_mem (f := 0) (i := 0) (by decide) rfl))) 0 rfl rfl 5 (by decide) (va_Nw.use rfl (te_f65 hE)) (fun _ h9 => h9) rfl dX8_linkAt_22 ?_
  refine lv_ifnonnull (tgt := 38) hx hb dX8_linkAt_25 (by decide) ?_
  refine lv_aload_n hx hb dX8_linkAt_38 rfl (lv_at hl 1 rfl) ?_
  refine va_get (D := (dC, dI)) (ws := [(ob, .inr (8, [.ref (L 0 0), .ref tp]))]) (ci := 8) (v := .ref (L 0 0)) (C := RX8) (T := TX8) (N := 2) hx hb hts tl_X8 hown hK (hP.one (Or.inr oW_mem)) 0 rfl rfl 0 (by decide) (hts _ tw_922) (fun _ h9 => h9) rfl dX8_linkAt_39 ?_
  refine va_getN (D := (dC, dI)) (ws := [(L 0 0, .inr (5, [.ref (L 1 0), .ref (L 20 0), .ref (L 21 0), .ref (L 22 0), .ref (L 23 0), .ref t0, .int ((a 0 0) 0), .int ((a 0 0) 1), .int ((a 0 0) 2), .int ((a 0 0) 3), .int ((a 0 0) 4), .int ((a 0 0) 5)]))]) (ci := 5) (v := .ref t0) (C := RX5) (T := TX5) (N := 12) hx hb hts tl_X5 hown hK (hP.one (Or.inl (tw_mem (f := 0) (i := 0) (by decide) rfl))) 0 rfl rfl 5 (by decide) (va_Nw.use rfl (te_f65 hE)) (fun _ h9 => h9) rfl dX8_linkAt_42 ?_
  refine lv_iload_n hx hb dX8_linkAt_45 rfl (lv_at hl 2 rfl) ?_
  refine lv_iload_n hx hb dX8_linkAt_46 rfl (lv_at hl 3 rfl) ?_
  have hFc := m_free (C := (TW cy L ((some t0)) a κ τ)) hP hS hA (fun _ _ h => (Or.inl h))
  refine va_calli (va_runV (As := [.int n, .int pl]) (rest := []) ⟨hx, hb, hml, hown, hts⟩ (c_Trails_get l dC dI cy L t0 a κ τ n.toNatClampNeg n pl j ((fun v => (a 15 v 7).toNatClampNeg)) ((fun v j => (a 30 v j).toNatClampNeg)) H.size hT (T_lt hw hf) (m_nI (fun h => hf (Or.inl h))) hpl hj (Nat.lt_of_le_of_lt (in_le (hw.2.2.2.2 _ (T_lt hw hf)).2.2) hM) hg) (tp_cwV 2 hts tw_410 tw_411 tw_412 tw_26 tw_413 rfl rfl (by decide +kernel) ⟨Nat.le_of_ble_eq_true rfl, Nat.le_of_ble_eq_true rfl⟩) ⟨m_blind, va_recv hK (hP.one (e := .inr (6, [.ref τ.1])) (Or.inl tr_t)) (ci := 6) (q0 := 0) rfl rfl, fun U hU hW => ⟨rfl, m_pay hK hP hE (fun _ _ h => (Or.inl h)) U hU hW⟩⟩ rfl rfl hl.1 rfl (lv_room (Nat.le_of_ble_eq_true rfl)) dX8_linkAt_47 ⟨(Nat.le_of_ble_eq_true rfl), (Nat.le_of_ble_eq_true rfl)⟩) hS (fun q _ h => hFc q h) hFc (fun r_2 u t H1 locs ht hvm hpo hB hz1 hk1 hS => ?_)
  obtain rfl := hpo
  obtain ⟨f_2, hP1⟩ := hB
  subst f_2
  rw [ht] at hP1
  have hP : mw (dC, dI) vwCl A (fun q e => TW cy L ((some t0)) a κ τ q e ∨ oW ob (L 0 0) tp q e) H1 := hP.join (fun _ _ h => (Or.inl h)) hk1 hFc hP1 (fun q e h => (h.elim (fun h => Or.inl h) (fun h => Or.inr ⟨(Or.inr h), fun y hy => ow_dis hP (fun _ _ h => (Or.inl h)) (fun _ _ h => (Or.inr h)) h hy⟩)))
  generalize H1 = H at hP hS ⊢
  clear hP1 hk1 hFc
  refine W.widen (k := 0) (n := 0) (Nat.le_of_ble_eq_true rfl) (Nat.le_of_ble_eq_true rfl) ?_
  have g_1 : (nI (((fun v j => (a 30 v j).toNatClampNeg)) n.toNatClampNeg j)) = nI (a 30 n.toNatClampNeg j).toNatClampNeg := by
    rfl
  exact W.iret (v := nI (((fun v j => (a 30 v j).toNatClampNeg)) n.toNatClampNeg j)) hx hb hr (fun t ht hW => ⟨⟨(nI (((fun v j => (a 30 v j).toNatClampNeg)) n.toNatClampNeg j)), (nI (((fun v j => (a 30 v j).toNatClampNeg)) n.toNatClampNeg j)), rfl, rfl, ⟨g_1, by show mw _ _ _ _ t.heap; rw [ht]; exact hP⟩⟩, hS.F ht⟩) hS.2.2 dX8_linkAt_50
