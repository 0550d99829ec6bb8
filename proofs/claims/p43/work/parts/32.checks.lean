theorem tw_42 : Cond.methodLink RX8 39 yX8_isWithin ∈ tp_all := tp_mem 42 (by decide +kernel) rfl
theorem tw_47 : Cond.code yX8_checkArgument cX8_checkArgument 1 none ∈ tp_all := tp_mem 47 (by decide +kernel) rfl
theorem tw_45 : Cond.methodLink RX8 36 yX8_checkArgument ∈ tp_all := tp_mem 45 (by decide +kernel) rfl
theorem tw_46 : Cond.static yX8_checkArgument ∈ tp_all := tp_mem 46 (by decide +kernel) rfl
theorem tw_922 : Cond.fieldLink RX8 12 "Turnpike" "now" "LTurnpike$Traffic;" ∈ tp_all := tp_mem 922 (by decide +kernel) rfl
theorem tw_127 : Cond.methodLink RX8 351 yX2_find ∈ tp_all := tp_mem 127 (by decide +kernel) rfl
theorem tw_391 : Cond.methodLink RX8 356 yX5_find ∈ tp_all := tp_mem 391 (by decide +kernel) rfl
theorem te_f68 {U : State} (h : tp_E U) : va_Nw (.fieldLinkNest "Turnpike" 21 "Turnpike$Traffic" "nodes" "I" "Turnpike") U := h.1 _ (List.mem_of_getElem? (i := 68) rfl)
theorem te_f60 {U : State} (h : tp_E U) : va_Nw (.fieldLinkNest "Turnpike" 43 "Turnpike$Traffic" "roads" "LTurnpike$Roads;" "Turnpike") U := h.1 _ (List.mem_of_getElem? (i := 60) rfl)
theorem dX8_checkArgument_0 : decode cX8_checkArgument 0 = .ok (.iload_n 0, 1) := by decide +kernel
theorem dX8_checkArgument_1 : decode cX8_checkArgument 1 = .ok (.ifCond .ne 14, 3) := by decide +kernel
theorem dX8_checkArgument_15 : decode cX8_checkArgument 15 = .ok (.return_, 1) := by decide +kernel
theorem dX8_checkTicks_0 : decode cX8_checkTicks 0 = .ok (.iload_n 0, 1) := by decide +kernel
theorem dX8_checkTicks_1 : decode cX8_checkTicks 1 = .ok (.iconst 1, 1) := by decide +kernel
theorem dX8_checkTicks_2 : decode cX8_checkTicks 2 = .ok (.bipush 60, 2) := by decide +kernel
theorem dX8_checkTicks_4 : decode cX8_checkTicks 4 = .ok (.invokestatic 39, 3) := by decide +kernel
theorem dX8_checkTicks_7 : decode cX8_checkTicks 7 = .ok (.invokestatic 36, 3) := by decide +kernel
theorem dX8_checkTicks_10 : decode cX8_checkTicks 10 = .ok (.return_, 1) := by decide +kernel
theorem dX8_checkNode_0 : decode cX8_checkNode 0 = .ok (.iload_n 1, 1) := by decide +kernel
theorem dX8_checkNode_1 : decode cX8_checkNode 1 = .ok (.ifCond .lt 14, 3) := by decide +kernel
theorem dX8_checkNode_4 : decode cX8_checkNode 4 = .ok (.iload_n 1, 1) := by decide +kernel
theorem dX8_checkNode_5 : decode cX8_checkNode 5 = .ok (.aload_n 0, 1) := by decide +kernel
theorem dX8_checkNode_6 : decode cX8_checkNode 6 = .ok (.getfield 12, 3) := by decide +kernel
theorem dX8_checkNode_9 : decode cX8_checkNode 9 = .ok (.getfield 21, 3) := by decide +kernel
theorem dX8_checkNode_12 : decode cX8_checkNode 12 = .ok (.if_icmp .lt 14, 3) := by decide +kernel
theorem dX8_checkNode_26 : decode cX8_checkNode 26 = .ok (.return_, 1) := by decide +kernel
theorem dX8_linkNumbered_0 : decode cX8_linkNumbered 0 = .ok (.aload_n 0, 1) := by decide +kernel
theorem dX8_linkNumbered_1 : decode cX8_linkNumbered 1 = .ok (.getfield 12, 3) := by decide +kernel
theorem dX8_linkNumbered_4 : decode cX8_linkNumbered 4 = .ok (.getfield 43, 3) := by decide +kernel
theorem dX8_linkNumbered_7 : decode cX8_linkNumbered 7 = .ok (.iload_n 1, 1) := by decide +kernel
theorem dX8_linkNumbered_8 : decode cX8_linkNumbered 8 = .ok (.invokevirtual 351, 3) := by decide +kernel
theorem dX8_linkNumbered_11 : decode cX8_linkNumbered 11 = .ok (.astore_n 2, 1) := by decide +kernel
theorem dX8_linkNumbered_12 : decode cX8_linkNumbered 12 = .ok (.aload_n 2, 1) := by decide +kernel
theorem dX8_linkNumbered_13 : decode cX8_linkNumbered 13 = .ok (.ifnonnull 14, 3) := by decide +kernel
theorem dX8_linkNumbered_27 : decode cX8_linkNumbered 27 = .ok (.aload_n 2, 1) := by decide +kernel
theorem dX8_linkNumbered_28 : decode cX8_linkNumbered 28 = .ok (.areturn, 1) := by decide +kernel
theorem dX8_vehicleNumbered_0 : decode cX8_vehicleNumbered 0 = .ok (.aload_n 0, 1) := by decide +kernel
theorem dX8_vehicleNumbered_1 : decode cX8_vehicleNumbered 1 = .ok (.getfield 12, 3) := by decide +kernel
theorem dX8_vehicleNumbered_4 : decode cX8_vehicleNumbered 4 = .ok (.iload_n 1, 1) := by decide +kernel
theorem dX8_vehicleNumbered_5 : decode cX8_vehicleNumbered 5 = .ok (.invokevirtual 356, 3) := by decide +kernel
theorem dX8_vehicleNumbered_8 : decode cX8_vehicleNumbered 8 = .ok (.astore_n 2, 1) := by decide +kernel
theorem dX8_vehicleNumbered_9 : decode cX8_vehicleNumbered 9 = .ok (.aload_n 2, 1) := by decide +kernel
theorem dX8_vehicleNumbered_10 : decode cX8_vehicleNumbered 10 = .ok (.ifnonnull 14, 3) := by decide +kernel
theorem dX8_vehicleNumbered_24 : decode cX8_vehicleNumbered 24 = .ok (.aload_n 2, 1) := by decide +kernel
theorem dX8_vehicleNumbered_25 : decode cX8_vehicleNumbered 25 = .ok (.areturn, 1) := by decide +kernel
set_option maxRecDepth 100000 in
set_option maxHeartbeats 4000000 in
/-- checkArgument -/
theorem c_checkArgument (l : Launch) (dC : Nat → ClassId) (dI : Nat → Nat → Nat) (cy : Nat → ClassId) (P9 : mP) (b : Int32) (sz : Nat) (hbz : ¬ b = 0) : Met l yX8_checkArgument (tp_w yX8_checkArgument cX8_checkArgument 1 none) ({ frames := 0, cells := 0, slots := 0, locals := 0 }) (va_Pc [.int b] (mPre dC dI cy P9 sz)) (va_Qv (fun _ : Unit => True) (fun (_ : Unit) (t : State) => mw (dC, dI) vwCl (mA P9 sz) P9 t.heap) (mA P9 sz)) (0) (0) (mA P9 sz) := by
  refine Met.ofW (cc := cX8_checkArgument) (maxL := 1) (ret := none) (by decide) rfl ?_
  intro p e s m args below meth c s₁ B hml hv
  obtain ⟨rfl, hsz, hP, hK, hE⟩ := hv
  have hx := B.exec
  have hb := B.bytes
  have hr := B.returns
  have hts0 := atoms_spec (ws := tp_w yX8_checkArgument cX8_checkArgument 1 none) B.pre
  have hts : ∀ w ∈ tp_all, w.before _ s = true := fun w h => hts0 w (List.mem_cons_of_mem _ h)
  have hown : s.vm.findClass RX8 = some m.cls := findClass_of_methodNamed B.named
  have hlocks := B.notSynchronized
  subst hsz
  have hP := hP.self s.heap.size
  generalize hAe : mA P9 s.heap.size = A at hP ⊢
  have hA : ∀ q : Nat, s.heap.size ≤ q → A q := fun q h => by rw [← hAe]; exact Or.inr h
  have hS : va_S A s.heap s.heap [] := va_S.rf
  have hl9 := lv_entry ([.int b]) (n := 1) (Nat.le_of_ble_eq_true rfl)
  rw [lg_entry_eq]
  generalize (lg_sl ([.int b]) ++ List.replicate (1 - (lg_sl ([.int b])).length) Slot.unset).toArray = ls at hl9 ⊢
  have hl : lv_has ls 1 [(0, .int b)] := hl9
  refine lv_iload_n hx hb dX8_checkArgument_0 rfl (lv_at hl 0 rfl) ?_
  refine lv_if_ne (tgt := 15) hx hb dX8_checkArgument_1 (by decide) (fun _ => ?_) (fun c_1 => absurd c_1 hbz)
  refine W.widen (k := 0) (n := 0) (Nat.le_of_ble_eq_true rfl) (Nat.le_of_ble_eq_true rfl) ?_
  exact W.vret hx hb hr (fun t ht hW => ⟨⟨(), rfl, trivial, (by show mw _ _ _ _ t.heap; rw [ht]; exact hP)⟩, hS.F ht⟩) hS.2.2 dX8_checkArgument_15
set_option maxRecDepth 100000 in
set_option maxHeartbeats 4000000 in
/-- checkTicks -/
theorem c_checkTicks (l : Launch) (dC : Nat → ClassId) (dI : Nat → Nat → Nat) (cy : Nat → ClassId) (P9 : mP) (n : Int32) (sz : Nat) (h1 : ¬ n < 1) (h2 : ¬ 60 < n) : Met l yX8_checkTicks (tp_w yX8_checkTicks cX8_checkTicks 1 none) ({ frames := 1, cells := 0, slots := 0, locals := 22 }) (va_Pc [.int n] (mPre dC dI cy P9 sz)) (va_Qv (fun _ : Unit => True) (fun (_ : Unit) (t : State) => mw (dC, dI) vwCl (mA P9 sz) P9 t.heap) (mA P9 sz)) (0) (0) (mA P9 sz) := by
  refine Met.ofW (cc := cX8_checkTicks) (maxL := 1) (ret := none) (by decide) rfl ?_
  intro p e s m args below meth c s₁ B hml hv
  obtain ⟨rfl, hsz, hP, hK, hE⟩ := hv
  have hx := B.exec
  have hb := B.bytes
  have hr := B.returns
  have hts0 := atoms_spec (ws := tp_w yX8_checkTicks cX8_checkTicks 1 none) B.pre
  have hts : ∀ w ∈ tp_all, w.before _ s = true := fun w h => hts0 w (List.mem_cons_of_mem _ h)
  have hown : s.vm.findClass RX8 = some m.cls := findClass_of_methodNamed B.named
  have hlocks := B.notSynchronized
  subst hsz
  have hP := hP.self s.heap.size
  generalize hAe : mA P9 s.heap.size = A at hP ⊢
  have hA : ∀ q : Nat, s.heap.size ≤ q → A q := fun q h => by rw [← hAe]; exact Or.inr h
  have hS : va_S A s.heap s.heap [] := va_S.rf
  have hl9 := lv_entry ([.int n]) (n := 1) (Nat.le_of_ble_eq_true rfl)
  rw [lg_entry_eq]
  generalize (lg_sl ([.int n]) ++ List.replicate (1 - (lg_sl ([.int n])).length) Slot.unset).toArray = ls at hl9 ⊢
  have hl : lv_has ls 1 [(0, .int n)] := hl9
  refine lv_iload_n hx hb dX8_checkTicks_0 rfl (lv_at hl 0 rfl) ?_
  refine lv_iconst (v := 1) hx hb dX8_checkTicks_1 (by decide) ?_
  refine lv_bipush (v := 60) hx hb dX8_checkTicks_2 (by decide) ?_
  have hFc := m_free (C := P9) hP hS hA (fun _ _ h => h)
  refine va_calli (va_runS (As := [.int n, .int 1, .int 60]) (rest := []) ⟨hx, hb, hml, hown, hts⟩ (c_isWithin l dC dI cy P9 n 1 60 s.heap.size) (tp_cwS 3 hts tw_42 tw_43 tw_20 tw_44 rfl rfl (by decide +kernel) ⟨Nat.le_of_ble_eq_true rfl, Nat.le_of_ble_eq_true rfl⟩) ⟨m_blind, fun U hU hW => ⟨rfl, m_pay hK hP hE (fun _ _ h => h) U hU hW⟩⟩ rfl rfl hl.1 rfl (lv_room (Nat.le_of_ble_eq_true rfl)) dX8_checkTicks_4 ⟨(Nat.le_of_ble_eq_true rfl), (Nat.le_of_ble_eq_true rfl)⟩) hS (fun q _ h => hFc q h) hFc (fun r_1 u t H1 locs ht hvm hpo hB hz1 hk1 hS => ?_)
  obtain rfl := hpo
  obtain ⟨f_1, hP1⟩ := hB
  subst f_1
  rw [ht] at hP1
  have hP : mw (dC, dI) vwCl A P9 H1 := hP.join (fun _ _ h => h) hk1 hFc hP1 (fun _ _ h => Or.inl h)
  generalize H1 = H at hP hS ⊢
  clear hP1 hk1 hFc
  have hFc := m_free (C := P9) hP hS hA (fun _ _ h => h)
  refine va_callv (va_runS (As := [.int (W_in n 1 60)]) (rest := []) ⟨hx, hb, hml, hown, hts⟩ (c_checkArgument l dC dI cy P9 (W_in n 1 60) H.size (by rw [W_in_1 h1 h2]; decide)) (tp_cwS 1 hts tw_45 tw_46 tw_20 tw_47 rfl rfl (by decide +kernel) ⟨Nat.le_of_ble_eq_true rfl, Nat.le_of_ble_eq_true rfl⟩) ⟨m_blind, fun U hU hW => ⟨rfl, m_pay hK hP hE (fun _ _ h => h) U hU hW⟩⟩ rfl rfl hl.1 rfl (lv_room (Nat.le_of_ble_eq_true rfl)) dX8_checkTicks_7 ⟨(Nat.le_of_ble_eq_true rfl), (Nat.le_of_ble_eq_true rfl)⟩) hS (fun q _ h => hFc q h) hFc (fun u t H1 locs ht hvm hpo hB hz1 hk1 hS => ?_)
  have hP1 := hB
  rw [ht] at hP1
  have hP : mw (dC, dI) vwCl A P9 H1 := hP.join (fun _ _ h => h) hk1 hFc hP1 (fun _ _ h => Or.inl h)
  generalize H1 = H at hP hS ⊢
  clear hP1 hk1 hFc
  refine W.widen (k := 0) (n := 0) (Nat.le_of_ble_eq_true rfl) (Nat.le_of_ble_eq_true rfl) ?_
  exact W.vret hx hb hr (fun t ht hW => ⟨⟨(), rfl, trivial, (by show mw _ _ _ _ t.heap; rw [ht]; exact hP)⟩, hS.F ht⟩) hS.2.2 dX8_checkTicks_10
set_option maxRecDepth 100000 in
set_option maxHeartbeats 4000000 in
/-- checkNode -/
theorem c_checkNode (l : Launch) (dC : Nat → ClassId) (dI : Nat → Nat → Nat) (cy : Nat → ClassId) (L : Lay) (tr : Option Nat) (a : St) (κ : Kap) (τ : Tau) (ob : Nat) (tp : Nat) (n : Int32) (sz : Nat) (hT : TL L tr τ) (hf : ¬ N_no a n) : Met l yX8_checkNode (tp_w yX8_checkNode cX8_checkNode 2 none) ({ frames := 0, cells := 0, slots := 0, locals := 0 }) (va_Pc [.ref ob, .int n] (mPre dC dI cy (fun q e => TW cy L tr a κ τ q e ∨ oW ob (L 0 0) tp q e) sz)) (va_Qv (fun _ : Unit => True) (fun (_ : Unit) (t : State) => mw (dC, dI) vwCl (mA (fun q e => TW cy L tr a κ τ q e ∨ oW ob (L 0 0) tp q e) sz) (fun q e => TW cy L tr a κ τ q e ∨ oW ob (L 0 0) tp q e) t.heap) (mA (fun q e => TW cy L tr a κ τ q e ∨ oW ob (L 0 0) tp q e) sz)) (0) (0) (mA (fun q e => TW cy L tr a κ τ q e ∨ oW ob (L 0 0) tp q e) sz) := by
  refine Met.ofW (cc := cX8_checkNode) (maxL := 2) (ret := none) (by decide) rfl ?_
  intro p e s m args below meth c s₁ B hml hv
  obtain ⟨rfl, hsz, hP, hK, hE⟩ := hv
  have hx := B.exec
  have hb := B.bytes
  have hr := B.returns
  have hts0 := atoms_spec (ws := tp_w yX8_checkNode cX8_checkNode 2 none) B.pre
  have hts : ∀ w ∈ tp_all, w.before _ s = true := fun w h => hts0 w (List.mem_cons_of_mem _ h)
  have hown : s.vm.findClass RX8 = some m.cls := findClass_of_methodNamed B.named
  have hlocks := B.notSynchronized
  subst hsz
  have hP := hP.self s.heap.size
  generalize hAe : mA (fun q e => TW cy L tr a κ τ q e ∨ oW ob (L 0 0) tp q e) s.heap.size = A at hP ⊢
  have hA : ∀ q : Nat, s.heap.size ≤ q → A q := fun q h => by rw [← hAe]; exact Or.inr h
  have hS : va_S A s.heap s.heap [] := va_S.rf
  have hl9 := lv_entry ([.ref ob, .int n]) (n := 2) (Nat.le_of_ble_eq_true rfl)
  rw [lg_entry_eq]
  generalize (lg_sl ([.ref ob, .int n]) ++ List.replicate (2 - (lg_sl ([.ref ob, .int n])).length) Slot.unset).toArray = ls at hl9 ⊢
  have hl : lv_has ls 2 [(0, .ref ob), (1, .int n)] := hl9
  refine lv_iload_n hx hb dX8_checkNode_0 rfl (lv_at hl 1 rfl) ?_
  refine lv_if_lt (tgt := 15) hx hb dX8_checkNode_1 (by decide) (fun c_1 => absurd c_1 (fun h => hf (Or.inl h))) (fun _ => ?_)
  refine lv_iload_n hx hb dX8_checkNode_4 rfl (lv_at hl 1 rfl) ?_
  refine lv_aload_n hx hb dX8_checkNode_5 rfl (lv_at hl 0 rfl) ?_
  refine va_get (D := (dC, dI)) (ws := [(ob, .inr (8, [.ref (L 0 0), .ref tp]))]) (ci := 8) (v := .ref (L 0 0)) (C := RX8) (T := TX8) (N := 2) hx hb hts tl_X8 hown hK (hP.one (Or.inr oW_mem)) 0 rfl rfl 0 (by decide) (hts _ tw_922) (fun _ h9 => h9) rfl dX8_checkNode_6 ?_
  refine va_getN (D := (dC, dI)) (ws := [(L 0 0, .inr (5, [.ref (L 1 0), .ref (L 20 0), .ref (L 21 0), .ref (L 22 0), .ref (L 23 0), va_rf tr, .int ((a 0 0) 0), .int ((a 0 0) 1), .int ((a 0 0) 2), .int ((a 0 0) 3), .int ((a 0 0) 4), .int ((a 0 0) 5)]))]) (ci := 5) (v := .int ((a 0 0) 2)) (C := RX5) (T := TX5) (N := 12) hx hb hts tl_X5 hown hK (hP.one (Or.inl (tw_mem (f := 0) (i := 0) (by decide) rfl))) 0 rfl rfl 8 (by decide) (va_Nw.use rfl (te_f68 hE)) (fun _ h9 => h9) rfl dX8_checkNode_9 ?_
  refine lv_icmp_lt (tgt := 26) hx hb dX8_checkNode_12 (by decide) (fun _ => ?_) (fun c_2 => absurd (m_nle (fun h => hf (Or.inr h))) c_2)
  refine W.widen (k := 0) (n := 0) (Nat.le_of_ble_eq_true rfl) (Nat.le_of_ble_eq_true rfl) ?_
  exact W.vret hx hb hr (fun t ht hW => ⟨⟨(), rfl, trivial, (by show mw _ _ _ _ t.heap; rw [ht]; exact hP)⟩, hS.F ht⟩) hS.2.2 dX8_checkNode_26
set_option maxRecDepth 100000 in
set_option maxHeartbeats 4000000 in
/-- linkNumbered -/
theorem c_linkNumbered (l : Launch) (dC : Nat → ClassId) (dI : Nat → Nat → Nat) (cy : Nat → ClassId) (L : Lay) (tr : Option Nat) (a : St) (κ : Kap) (τ : Tau) (ob : Nat) (tp : Nat) (M : Nat) (n : Int32) (sz : Nat) (hT : TL L tr τ) (hw : Wf M a) (hf : ¬ G_no a n) : Met l yX8_linkNumbered (tp_w yX8_linkNumbered cX8_linkNumbered 3 (some (.object "Turnpike$Link"))) ({ frames := 1, cells := 0, slots := 0, locals := 21 }) (va_Pc [.ref ob, .int n] (mPre dC dI cy (fun q e => TW cy L tr a κ τ q e ∨ oW ob (L 0 0) tp q e) sz)) (va_Qr (fun _ : Unit => True) (fun (_ : Unit) (rv : Nat) (t : State) => (rv = L 2 n.toNatClampNeg) ∧ mw (dC, dI) vwCl (mA (fun q e => TW cy L tr a κ τ q e ∨ oW ob (L 0 0) tp q e) sz) (fun q e => TW cy L tr a κ τ q e ∨ oW ob (L 0 0) tp q e) t.heap) (mA (fun q e => TW cy L tr a κ τ q e ∨ oW ob (L 0 0) tp q e) sz)) (0) (0) (mA (fun q e => TW cy L tr a κ τ q e ∨ oW ob (L 0 0) tp q e) sz) := by
  refine Met.ofW (cc := cX8_linkNumbered) (maxL := 3) (ret := (some (.object "Turnpike$Link"))) (by decide) rfl ?_
  intro p e s m args below meth c s₁ B hml hv
  obtain ⟨rfl, hsz, hP, hK, hE⟩ := hv
  have hx := B.exec
  have hb := B.bytes
  have hr := B.returns
  have hts0 := atoms_spec (ws := tp_w yX8_linkNumbered cX8_linkNumbered 3 (some (.object "Turnpike$Link"))) B.pre
  have hts : ∀ w ∈ tp_all, w.before _ s = true := fun w h => hts0 w (List.mem_cons_of_mem _ h)
  have hown : s.vm.findClass RX8 = some m.cls := findClass_of_methodNamed B.named
  have hlocks := B.notSynchronized
  subst hsz
  have hP := hP.self s.heap.size
  generalize hAe : mA (fun q e => TW cy L tr a κ τ q e ∨ oW ob (L 0 0) tp q e) s.heap.size = A at hP ⊢
  have hA : ∀ q : Nat, s.heap.size ≤ q → A q := fun q h => by rw [← hAe]; exact Or.inr h
  have hS : va_S A s.heap s.heap [] := va_S.rf
  have hl9 := lv_entry ([.ref ob, .int n]) (n := 3) (Nat.le_of_ble_eq_true rfl)
  rw [lg_entry_eq]
  generalize (lg_sl ([.ref ob, .int n]) ++ List.replicate (3 - (lg_sl ([.ref ob, .int n])).length) Slot.unset).toArray = ls at hl9 ⊢
  have hl : lv_has ls 3 [(0, .ref ob), (1, .int n)] := hl9
  refine lv_aload_n hx hb dX8_linkNumbered_0 rfl (lv_at hl 0 rfl) ?_
  refine va_get (D := (dC, dI)) (ws := [(ob, .inr (8, [.ref (L 0 0), .ref tp]))]) (ci := 8) (v := .ref (L 0 0)) (C := RX8) (T := TX8) (N := 2) hx hb hts tl_X8 hown hK (hP.one (Or.inr oW_mem)) 0 rfl rfl 0 (by decide) (hts _ tw_922) (fun _ h9 => h9) rfl dX8_linkNumbered_1 ?_
  refine va_getN (D := (dC, dI)) (ws := [(L 0 0, .inr (5, [.ref (L 1 0), .ref (L 20 0), .ref (L 21 0), .ref (L 22 0), .ref (L 23 0), va_rf tr, .int ((a 0 0) 0), .int ((a 0 0) 1), .int ((a 0 0) 2), .int ((a 0 0) 3), .int ((a 0 0) 4), .int ((a 0 0) 5)]))]) (ci := 5) (v := .ref (L 1 0)) (C := RX5) (T := TX5) (N := 12) hx hb hts tl_X5 hown hK (hP.one (Or.inl (tw_mem (f := 0) (i := 0) (by decide) rfl))) 0 rfl rfl 0 (by decide) (va_Nw.use rfl (te_f60 hE)) (fun _ h9 => h9) rfl dX8_linkNumbered_4 ?_
  refine lv_iload_n hx hb dX8_linkNumbered_7 rfl (lv_at hl 1 rfl) ?_
  have hFc := m_free (C := (TW cy L tr a κ τ)) hP hS hA (fun _ _ h => (Or.inl h))
  refine va_callr (va_runV (As := [.int n]) (rest := []) ⟨hx, hb, hml, hown, hts⟩ (c_Roads_find_some l dC dI cy L tr a κ τ M n s.heap.size hT hw hf) (tp_cwV 1 hts tw_127 tw_128 tw_129 tw_22 tw_130 rfl rfl (by decide +kernel) ⟨Nat.le_of_ble_eq_true rfl, Nat.le_of_ble_eq_true rfl⟩) ⟨m_blind, va_recv hK (hP.one (e := .inr (2, [.ref (L 24 0), .int ((a 1 0) 0), .ref (L 25 0), .int κ.1])) (Or.inl (tw_mem (f := 1) (i := 0) (by decide) rfl))) (ci := 2) (q0 := 0) rfl rfl, fun U hU hW => ⟨rfl, m_pay hK hP hE (fun _ _ h => (Or.inl h)) U hU hW⟩⟩ rfl rfl hl.1 rfl (lv_room (Nat.le_of_ble_eq_true rfl)) dX8_linkNumbered_8 ⟨(Nat.le_of_ble_eq_true rfl), (Nat.le_of_ble_eq_true rfl)⟩) hS (fun q _ h => hFc q h) hFc (fun u r_1 t H1 locs ht hvm hpo hB hz1 hk1 hS => ?_)
  obtain ⟨f_1, hP1⟩ := hB
  subst f_1
  rw [ht] at hP1
  have hP : mw (dC, dI) vwCl A (fun q e => TW cy L tr a κ τ q e ∨ oW ob (L 0 0) tp q e) H1 := hP.join (fun _ _ h => (Or.inl h)) hk1 hFc hP1 (fun q e h => (h.elim (fun h => Or.inl h) (fun h => Or.inr ⟨(Or.inr h), fun y hy => ow_dis hP (fun _ _ h => (Or.inl h)) (fun _ _ h => (Or.inr h)) h hy⟩)))
  generalize H1 = H at hP hS ⊢
  clear hP1 hk1 hFc
  refine lv_astore_n (lv' := [(2, .ref (L 2 n.toNatClampNeg)), (0, .ref ob), (1, .int n)]) hx hb dX8_linkNumbered_11 rfl hl (by decide) rfl (fun ls hl => ?_)
  refine lv_aload_n hx hb dX8_linkNumbered_12 rfl (lv_at hl 0 rfl) ?_
  refine lv_ifnonnull (tgt := 27) hx hb dX8_linkNumbered_13 (by decide) ?_
  refine lv_aload_n hx hb dX8_linkNumbered_27 rfl (lv_at hl 0 rfl) ?_
  refine W.widen (k := 0) (n := 0) (Nat.le_of_ble_eq_true rfl) (Nat.le_of_ble_eq_true rfl) ?_
  have g_1 : (L 2 n.toNatClampNeg) = L 2 n.toNatClampNeg := by
    first | rfl | assumption | (simp only [])
  exact W.aret (v := .ref (L 2 n.toNatClampNeg)) hx hb hr (Or.inl ⟨_, rfl⟩) (Or.inr ⟨_, rfl⟩) (fun t ht hW => ⟨⟨(), L 2 n.toNatClampNeg, rfl, trivial, ⟨g_1, by show mw _ _ _ _ t.heap; rw [ht]; exact hP⟩⟩, hS.F ht⟩) hS.2.2 dX8_linkNumbered_28
set_option maxRecDepth 100000 in
set_option maxHeartbeats 4000000 in
/-- vehicleNumbered -/
theorem c_vehicleNumbered (l : Launch) (dC : Nat → ClassId) (dI : Nat → Nat → Nat) (cy : Nat → ClassId) (L : Lay) (tr : Option Nat) (a : St) (κ : Kap) (τ : Tau) (ob : Nat) (tp : Nat) (M : Nat) (n : Int32) (sz : Nat) (hT : TL L tr τ) (hw : Wf M a) (hf : ¬ T_no a n) : Met l yX8_vehicleNumbered (tp_w yX8_vehicleNumbered cX8_vehicleNumbered 3 (some (.object "Turnpike$Vehicle"))) ({ frames := 1, cells := 0, slots := 0, locals := 21 }) (va_Pc [.ref ob, .int n] (mPre dC dI cy (fun q e => TW cy L tr a κ τ q e ∨ oW ob (L 0 0) tp q e) sz)) (va_Qr (fun _ : Unit => True) (fun (_ : Unit) (rv : Nat) (t : State) => (rv = L 15 n.toNatClampNeg) ∧ mw (dC, dI) vwCl (mA (fun q e => TW cy L tr a κ τ q e ∨ oW ob (L 0 0) tp q e) sz) (fun q e => TW cy L tr a κ τ q e ∨ oW ob (L 0 0) tp q e) t.heap) (mA (fun q e => TW cy L tr a κ τ q e ∨ oW ob (L 0 0) tp q e) sz)) (0) (0) (mA (fun q e => TW cy L tr a κ τ q e ∨ oW ob (L 0 0) tp q e) sz) := by
  refine Met.ofW (cc := cX8_vehicleNumbered) (maxL := 3) (ret := (some (.object "Turnpike$Vehicle"))) (by decide) rfl ?_
  intro p e s m args below meth c s₁ B hml hv
  obtain ⟨rfl, hsz, hP, hK, hE⟩ := hv
  have hx := B.exec
  have hb := B.bytes
  have hr := B.returns
  have hts0 := atoms_spec (ws := tp_w yX8_vehicleNumbered cX8_vehicleNumbered 3 (some (.object "Turnpike$Vehicle"))) B.pre
  have hts : ∀ w ∈ tp_all, w.before _ s = true := fun w h => hts0 w (List.mem_cons_of_mem _ h)
  have hown : s.vm.findClass RX8 = some m.cls := findClass_of_methodNamed B.named
  have hlocks := B.notSynchronized
  subst hsz
  have hP := hP.self s.heap.size
  generalize hAe : mA (fun q e => TW cy L tr a κ τ q e ∨ oW ob (L 0 0) tp q e) s.heap.size = A at hP ⊢
  have hA : ∀ q : Nat, s.heap.size ≤ q → A q := fun q h => by rw [← hAe]; exact Or.inr h
  have hS : va_S A s.heap s.heap [] := va_S.rf
  have hl9 := lv_entry ([.ref ob, .int n]) (n := 3) (Nat.le_of_ble_eq_true rfl)
  rw [lg_entry_eq]
  generalize (lg_sl ([.ref ob, .int n]) ++ List.replicate (3 - (lg_sl ([.ref ob, .int n])).length) Slot.unset).toArray = ls at hl9 ⊢
  have hl : lv_has ls 3 [(0, .ref ob), (1, .int n)] := hl9
  refine lv_aload_n hx hb dX8_vehicleNumbered_0 rfl (lv_at hl 0 rfl) ?_
  refine va_get (D := (dC, dI)) (ws := [(ob, .inr (8, [.ref (L 0 0), .ref tp]))]) (ci := 8) (v := .ref (L 0 0)) (C := RX8) (T := TX8) (N := 2) hx hb hts tl_X8 hown hK (hP.one (Or.inr oW_mem)) 0 rfl rfl 0 (by decide) (hts _ tw_922) (fun _ h9 => h9) rfl dX8_vehicleNumbered_1 ?_
  refine lv_iload_n hx hb dX8_vehicleNumbered_4 rfl (lv_at hl 1 rfl) ?_
  have hFc := m_free (C := (TW cy L tr a κ τ)) hP hS hA (fun _ _ h => (Or.inl h))
  refine va_callr (va_runV (As := [.int n]) (rest := []) ⟨hx, hb, hml, hown, hts⟩ (c_Traffic_find_some l dC dI cy L tr a κ τ M n s.heap.size hT hw hf) (tp_cwV 1 hts tw_391 tw_275 tw_276 tw_21 tw_277 rfl rfl (by decide +kernel) ⟨Nat.le_of_ble_eq_true rfl, Nat.le_of_ble_eq_true rfl⟩) ⟨m_blind, va_recv hK (hP.one (e := .inr (5, [.ref (L 1 0), .ref (L 20 0), .ref (L 21 0), .ref (L 22 0), .ref (L 23 0), va_rf tr, .int ((a 0 0) 0), .int ((a 0 0) 1), .int ((a 0 0) 2), .int ((a 0 0) 3), .int ((a 0 0) 4), .int ((a 0 0) 5)])) (Or.inl (tw_mem (f := 0) (i := 0) (by decide) rfl))) (ci := 5) (q0 := 0) rfl rfl, fun U hU hW => ⟨rfl, m_pay hK hP hE (fun _ _ h => (Or.inl h)) U hU hW⟩⟩ rfl rfl hl.1 rfl (lv_room (Nat.le_of_ble_eq_true rfl)) dX8_vehicleNumbered_5 ⟨(Nat.le_of_ble_eq_true rfl), (Nat.le_of_ble_eq_true rfl)⟩) hS (fun q _ h => hFc q h) hFc (fun u r_1 t H1 locs ht hvm hpo hB hz1 hk1 hS => ?_)
  obtain ⟨f_1, hP1⟩ := hB
  subst f_1
  rw [ht] at hP1
  have hP : mw (dC, dI) vwCl A (fun q e => TW cy L tr a κ τ q e ∨ oW ob (L 0 0) tp q e) H1 := hP.join (fun _ _ h => (Or.inl h)) hk1 hFc hP1 (fun q e h => (h.elim (fun h => Or.inl h) (fun h => Or.inr ⟨(Or.inr h), fun y hy => ow_dis hP (fun _ _ h => (Or.inl h)) (fun _ _ h => (Or.inr h)) h hy⟩)))
  generalize H1 = H at hP hS ⊢
  clear hP1 hk1 hFc
  refine lv_astore_n (lv' := [(2, .ref (L 15 n.toNatClampNeg)), (0, .ref ob), (1, .int n)]) hx hb dX8_vehicleNumbered_8 rfl hl (by decide) rfl (fun ls hl => ?_)
  refine lv_aload_n hx hb dX8_vehicleNumbered_9 rfl (lv_at hl 0 rfl) ?_
  refine lv_ifnonnull (tgt := 24) hx hb dX8_vehicleNumbered_10 (by decide) ?_
  refine lv_aload_n hx hb dX8_vehicleNumbered_24 rfl (lv_at hl 0 rfl) ?_
  refine W.widen (k := 0) (n := 0) (Nat.le_of_ble_eq_true rfl) (Nat.le_of_ble_eq_true rfl) ?_
  have g_1 : (L 15 n.toNatClampNeg) = L 15 n.toNatClampNeg := by
    first | rfl | assumption | (simp only [])
  exact W.aret (v := .ref (L 15 n.toNatClampNeg)) hx hb hr (Or.inl ⟨_, rfl⟩) (Or.inr ⟨_, rfl⟩) (fun t ht hW => ⟨⟨(), L 15 n.toNatClampNeg, rfl, trivial, ⟨g_1, by show mw _ _ _ _ t.heap; rw [ht]; exact hP⟩⟩, hS.F ht⟩) hS.2.2 dX8_vehicleNumbered_25
