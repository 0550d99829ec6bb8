theorem tw_923 : Cond.fieldLink RX8 18 "Turnpike" "trial" "LTurnpike$Traffic;" ∈ tp_all := tp_mem 923 (by decide +kernel) rfl
theorem tw_463 : Cond.code yX5_copyFrom cX5_copyFrom 4 none ∈ tp_all := tp_mem 463 (by decide +kernel) rfl
theorem tw_460 : Cond.methodLink RX8 243 yX5_copyFrom ∈ tp_all := tp_mem 460 (by decide +kernel) rfl
theorem tw_461 : Cond.instanceMethod yX5_copyFrom ∈ tp_all := tp_mem 461 (by decide +kernel) rfl
theorem tw_462 : Cond.selects RX5 yX5_copyFrom yX5_copyFrom ∈ tp_all := tp_mem 462 (by decide +kernel) rfl
theorem te_f71 {U : State} (h : tp_E U) : va_Nw (.fieldLinkNest "Turnpike" 251 "Turnpike$Traffic" "underWay" "I" "Turnpike") U := h.1 _ (List.mem_of_getElem? (i := 71) rfl)
theorem te_f64 {U : State} (h : tp_E U) : va_Nw (.fieldLinkNest "Turnpike" 247 "Turnpike$Traffic" "vehicle" "[LTurnpike$Vehicle;" "Turnpike") U := h.1 _ (List.mem_of_getElem? (i := 64) rfl)
theorem dX8_emptyIn_0 : decode cX8_emptyIn 0 = .ok (.iload_n 1, 1) := by decide +kernel
theorem dX8_emptyIn_1 : decode cX8_emptyIn 1 = .ok (.invokestatic 120, 3) := by decide +kernel
theorem dX8_emptyIn_4 : decode cX8_emptyIn 4 = .ok (.aload_n 0, 1) := by decide +kernel
theorem dX8_emptyIn_5 : decode cX8_emptyIn 5 = .ok (.getfield 12, 3) := by decide +kernel
theorem dX8_emptyIn_8 : decode cX8_emptyIn 8 = .ok (.getfield 251, 3) := by decide +kernel
theorem dX8_emptyIn_11 : decode cX8_emptyIn 11 = .ok (.ifCond .ne 5, 3) := by decide +kernel
theorem dX8_emptyIn_16 : decode cX8_emptyIn 16 = .ok (.aload_n 0, 1) := by decide +kernel
theorem dX8_emptyIn_17 : decode cX8_emptyIn 17 = .ok (.getfield 18, 3) := by decide +kernel
theorem dX8_emptyIn_20 : decode cX8_emptyIn 20 = .ok (.aload_n 0, 1) := by decide +kernel
theorem dX8_emptyIn_21 : decode cX8_emptyIn 21 = .ok (.getfield 12, 3) := by decide +kernel
theorem dX8_emptyIn_24 : decode cX8_emptyIn 24 = .ok (.invokevirtual 243, 3) := by decide +kernel
theorem dX8_emptyIn_27 : decode cX8_emptyIn 27 = .ok (.iconst 1, 1) := by decide +kernel
theorem dX8_emptyIn_28 : decode cX8_emptyIn 28 = .ok (.istore_n 2, 1) := by decide +kernel
theorem dX8_emptyIn_29 : decode cX8_emptyIn 29 = .ok (.iload_n 2, 1) := by decide +kernel
theorem dX8_emptyIn_30 : decode cX8_emptyIn 30 = .ok (.iload_n 1, 1) := by decide +kernel
theorem dX8_emptyIn_31 : decode cX8_emptyIn 31 = .ok (.if_icmp .gt 28, 3) := by decide +kernel
theorem dX8_emptyIn_59 : decode cX8_emptyIn 59 = .ok (.iconst (-1), 1) := by decide +kernel
theorem dX8_emptyIn_60 : decode cX8_emptyIn 60 = .ok (.ireturn, 1) := by decide +kernel
theorem dX8_emptyIn_34 : decode cX8_emptyIn 34 = .ok (.aload_n 0, 1) := by decide +kernel
theorem dX8_emptyIn_35 : decode cX8_emptyIn 35 = .ok (.getfield 18, 3) := by decide +kernel
theorem dX8_emptyIn_38 : decode cX8_emptyIn 38 = .ok (.invokevirtual 123, 3) := by decide +kernel
theorem dX8_emptyIn_41 : decode cX8_emptyIn 41 = .ok (.aload_n 0, 1) := by decide +kernel
theorem dX8_emptyIn_42 : decode cX8_emptyIn 42 = .ok (.getfield 18, 3) := by decide +kernel
theorem dX8_emptyIn_45 : decode cX8_emptyIn 45 = .ok (.getfield 251, 3) := by decide +kernel
theorem dX8_emptyIn_48 : decode cX8_emptyIn 48 = .ok (.ifCond .ne 5, 3) := by decide +kernel
theorem dX8_emptyIn_53 : decode cX8_emptyIn 53 = .ok (.iinc 2 1, 3) := by decide +kernel
theorem dX8_emptyIn_56 : decode cX8_emptyIn 56 = .ok (.goto (-27), 3) := by decide +kernel
theorem dX8_emptyIn_51 : decode cX8_emptyIn 51 = .ok (.iload_n 2, 1) := by decide +kernel
theorem dX8_emptyIn_52 : decode cX8_emptyIn 52 = .ok (.ireturn, 1) := by decide +kernel
theorem dX8_emptyIn_14 : decode cX8_emptyIn 14 = .ok (.iconst 0, 1) := by decide +kernel
theorem dX8_emptyIn_15 : decode cX8_emptyIn 15 = .ok (.ireturn, 1) := by decide +kernel
theorem dX8_arrivesIn_0 : decode cX8_arrivesIn 0 = .ok (.aload_n 0, 1) := by decide +kernel
theorem dX8_arrivesIn_1 : decode cX8_arrivesIn 1 = .ok (.iload_n 1, 1) := by decide +kernel
theorem dX8_arrivesIn_2 : decode cX8_arrivesIn 2 = .ok (.invokevirtual 146, 3) := by decide +kernel
theorem dX8_arrivesIn_5 : decode cX8_arrivesIn 5 = .ok (.astore_n 3, 1) := by decide +kernel
theorem dX8_arrivesIn_6 : decode cX8_arrivesIn 6 = .ok (.iload_n 2, 1) := by decide +kernel
theorem dX8_arrivesIn_7 : decode cX8_arrivesIn 7 = .ok (.invokestatic 120, 3) := by decide +kernel
theorem dX8_arrivesIn_10 : decode cX8_arrivesIn 10 = .ok (.aload_n 3, 1) := by decide +kernel
theorem dX8_arrivesIn_11 : decode cX8_arrivesIn 11 = .ok (.getfield 150, 3) := by decide +kernel
theorem dX8_arrivesIn_14 : decode cX8_arrivesIn 14 = .ok (.iconst 2, 1) := by decide +kernel
theorem dX8_arrivesIn_15 : decode cX8_arrivesIn 15 = .ok (.if_icmp .ne 5, 3) := by decide +kernel
theorem dX8_arrivesIn_20 : decode cX8_arrivesIn 20 = .ok (.aload_n 0, 1) := by decide +kernel
theorem dX8_arrivesIn_21 : decode cX8_arrivesIn 21 = .ok (.getfield 18, 3) := by decide +kernel
theorem dX8_arrivesIn_24 : decode cX8_arrivesIn 24 = .ok (.aload_n 0, 1) := by decide +kernel
theorem dX8_arrivesIn_25 : decode cX8_arrivesIn 25 = .ok (.getfield 12, 3) := by decide +kernel
theorem dX8_arrivesIn_28 : decode cX8_arrivesIn 28 = .ok (.invokevirtual 243, 3) := by decide +kernel
theorem dX8_arrivesIn_31 : decode cX8_arrivesIn 31 = .ok (.iconst 1, 1) := by decide +kernel
theorem dX8_arrivesIn_32 : decode cX8_arrivesIn 32 = .ok (.istore 4, 2) := by decide +kernel
theorem dX8_arrivesIn_34 : decode cX8_arrivesIn 34 = .ok (.iload 4, 2) := by decide +kernel
theorem dX8_arrivesIn_36 : decode cX8_arrivesIn 36 = .ok (.iload_n 2, 1) := by decide +kernel
theorem dX8_arrivesIn_37 : decode cX8_arrivesIn 37 = .ok (.if_icmp .gt 35, 3) := by decide +kernel
theorem dX8_arrivesIn_72 : decode cX8_arrivesIn 72 = .ok (.iconst (-1), 1) := by decide +kernel
theorem dX8_arrivesIn_73 : decode cX8_arrivesIn 73 = .ok (.ireturn, 1) := by decide +kernel
theorem dX8_arrivesIn_40 : decode cX8_arrivesIn 40 = .ok (.aload_n 0, 1) := by decide +kernel
theorem dX8_arrivesIn_41 : decode cX8_arrivesIn 41 = .ok (.getfield 18, 3) := by decide +kernel
theorem dX8_arrivesIn_44 : decode cX8_arrivesIn 44 = .ok (.invokevirtual 123, 3) := by decide +kernel
theorem dX8_arrivesIn_47 : decode cX8_arrivesIn 47 = .ok (.aload_n 0, 1) := by decide +kernel
theorem dX8_arrivesIn_48 : decode cX8_arrivesIn 48 = .ok (.getfield 18, 3) := by decide +kernel
theorem dX8_arrivesIn_51 : decode cX8_arrivesIn 51 = .ok (.getfield 247, 3) := by decide +kernel
theorem dX8_arrivesIn_54 : decode cX8_arrivesIn 54 = .ok (.iload_n 1, 1) := by decide +kernel
theorem dX8_arrivesIn_55 : decode cX8_arrivesIn 55 = .ok (.aaload, 1) := by decide +kernel
theorem dX8_arrivesIn_56 : decode cX8_arrivesIn 56 = .ok (.getfield 150, 3) := by decide +kernel
theorem dX8_arrivesIn_59 : decode cX8_arrivesIn 59 = .ok (.iconst 2, 1) := by decide +kernel
theorem dX8_arrivesIn_60 : decode cX8_arrivesIn 60 = .ok (.if_icmp .ne 6, 3) := by decide +kernel
theorem dX8_arrivesIn_66 : decode cX8_arrivesIn 66 = .ok (.iinc 4 1, 3) := by decide +kernel
theorem dX8_arrivesIn_69 : decode cX8_arrivesIn 69 = .ok (.goto (-35), 3) := by decide +kernel
theorem dX8_arrivesIn_63 : decode cX8_arrivesIn 63 = .ok (.iload 4, 2) := by decide +kernel
theorem dX8_arrivesIn_65 : decode cX8_arrivesIn 65 = .ok (.ireturn, 1) := by decide +kernel
theorem dX8_arrivesIn_18 : decode cX8_arrivesIn 18 = .ok (.iconst 0, 1) := by decide +kernel
theorem dX8_arrivesIn_19 : decode cX8_arrivesIn 19 = .ok (.ireturn, 1) := by decide +kernel
set_option maxRecDepth 100000 in
set_option maxHeartbeats 4000000 in
/-- emptyIn -/
theorem c_emptyIn (l : Launch) (dC : Nat → ClassId) (dI : Nat → Nat → Nat) (cy : Nat → ClassId) (L : Lay) (b : St) (κ : Kap) (τ : Tau) (K : Lay) (s0 : Nat) (a : St) (μ : Kap) (ν : Tau) (ob : Nat) (M : Nat) (N : Nat) (sz : Nat) (hT : TL L none τ) (hT2 : TL K (some s0) ν) (hAP : AP L K (some s0) ν) (hw : Wf M a) (hwb : Wf M b) (hsh : ∀ i, i < 24 → a 2 i 7 = 0 ∨ a 2 i 7 = 1) (h1N : 1 ≤ N) (hN60 : N ≤ 60) (hMN : M + 84 * N < 30000) (hck : 0 ≤ (a 0 0 0).toInt) (hck2 : (a 0 0 0).toInt + N < 2 ^ 31) : Met l yX8_emptyIn (tp_w yX8_emptyIn cX8_emptyIn 3 (some .int)) ({ frames := 7, cells := 0, slots := 0, locals := 171 }) (va_Pc [.ref ob, .int (nI N)] (mPre dC dI cy (fun q e => TW cy L none b κ τ q e ∨ TW cy K ((some s0)) a μ ν q e ∨ oW ob (K 0 0) (L 0 0) q e) sz)) (va_Qi (fun (r u : Int32) => r = u) (fun (u : Int32) (t : State) => ∃ (b2 : St), ∃ (κ2 : Kap), ∃ (τ2 : Tau), (u = (if a 0 0 5 = 0 then 0 else E_scan N 1 (T_copy b a))) ∧ (Wf (M + 84 * N) b2) ∧ mw (dC, dI) vwCl (mA (fun q e => TW cy L none b κ τ q e ∨ TW cy K ((some s0)) a μ ν q e ∨ oW ob (K 0 0) (L 0 0) q e) sz) (fun q e => TW cy L none b2 κ2 τ2 q e ∨ TW cy K ((some s0)) a μ ν q e ∨ oW ob (K 0 0) (L 0 0) q e) t.heap) (mA (fun q e => TW cy L none b κ τ q e ∨ TW cy K ((some s0)) a μ ν q e ∨ oW ob (K 0 0) (L 0 0) q e) sz)) (0) (0) (mA (fun q e => TW cy L none b κ τ q e ∨ TW cy K ((some s0)) a μ ν q e ∨ oW ob (K 0 0) (L 0 0) q e) sz) := by
  refine Met.ofW (cc := cX8_emptyIn) (maxL := 3) (ret := (some .int)) (by decide) rfl ?_
  intro p e s m args below meth c s₁ B hml hv
  obtain ⟨rfl, hsz, hP, hK, hE⟩ := hv
  have hx := B.exec
  have hb := B.bytes
  have hr := B.returns
  have hts0 := atoms_spec (ws := tp_w yX8_emptyIn cX8_emptyIn 3 (some .int)) B.pre
  have hts : ∀ w ∈ tp_all, w.before _ s = true := fun w h => hts0 w (List.mem_cons_of_mem _ h)
  have hown : s.vm.findClass RX8 = some m.cls := findClass_of_methodNamed B.named
  have hlocks := B.notSynchronized
  subst hsz
  have hP := hP.self s.heap.size
  generalize hAe : mA (fun q e => TW cy L none b κ τ q e ∨ TW cy K ((some s0)) a μ ν q e ∨ oW ob (K 0 0) (L 0 0) q e) s.heap.size = A at hP ⊢
  have hA : ∀ q : Nat, s.heap.size ≤ q → A q := fun q h => by rw [← hAe]; exact Or.inr h
  have hS : va_S A s.heap s.heap [] := va_S.rf
  have hl9 := lv_entry ([.ref ob, .int (nI N)]) (n := 3) (Nat.le_of_ble_eq_true rfl)
  rw [lg_entry_eq]
  generalize (lg_sl ([.ref ob, .int (nI N)]) ++ List.replicate (3 - (lg_sl ([.ref ob, .int (nI N)])).length) Slot.unset).toArray = ls at hl9 ⊢
  have hl : lv_has ls 3 [(0, .ref ob), (1, .int (nI N))] := hl9
  refine lv_iload_n hx hb dX8_emptyIn_0 rfl (lv_at hl 1 rfl) ?_
  have hFc := m_free (C := (fun q e => TW cy L none b κ τ q e ∨ TW cy K ((some s0)) a μ ν q e ∨ oW ob (K 0 0) (L 0 0) q e)) hP hS hA (fun _ _ h => h)
  refine va_callv (va_runS (As := [.int (nI N)]) (rest := []) ⟨hx, hb, hml, hown, hts⟩ (c_checkTicks l dC dI cy ((fun q e => TW cy L none b κ τ q e ∨ TW cy K ((some s0)) a μ ν q e ∨ oW ob (K 0 0) (L 0 0) q e)) (nI N) s.heap.size (nI_nlt (a := N) (b := 1) (by omega) (by omega)) (nI_nlt (a := 60) (b := N) (by omega) (by omega))) (tp_cwS 1 hts tw_159 tw_160 tw_20 tw_161 rfl rfl (by decide +kernel) ⟨Nat.le_of_ble_eq_true rfl, Nat.le_of_ble_eq_true rfl⟩) ⟨m_blind, fun U hU hW => ⟨rfl, m_pay hK hP hE (fun _ _ h => h) U hU hW⟩⟩ rfl rfl hl.1 rfl (lv_room (Nat.le_of_ble_eq_true rfl)) dX8_emptyIn_1 ⟨(Nat.le_of_ble_eq_true rfl), (Nat.le_of_ble_eq_true rfl)⟩) hS (fun q _ h => hFc q h) hFc (fun u t H1 locs ht hvm hpo hB hz1 hk1 hS => ?_)
  have hP1 := hB
  rw [ht] at hP1
  have hP : mw (dC, dI) vwCl A (fun q e => TW cy L none b κ τ q e ∨ TW cy K ((some s0)) a μ ν q e ∨ oW ob (K 0 0) (L 0 0) q e) H1 := hP.join (fun _ _ h => h) hk1 hFc hP1 (fun _ _ h => Or.inl h)
  generalize H1 = H at hP hS ⊢
  clear hP1 hk1 hFc
  refine lv_aload_n hx hb dX8_emptyIn_4 rfl (lv_at hl 0 rfl) ?_
  refine va_get (D := (dC, dI)) (ws := [(ob, .inr (8, [.ref (K 0 0), .ref (L 0 0)]))]) (ci := 8) (v := .ref (K 0 0)) (C := RX8) (T := TX8) (N := 2) hx hb hts tl_X8 hown hK (hP.one (Or.inr (Or.inr oW_mem))) 0 rfl rfl 0 (by decide) (hts _ tw_922) (fun _ h9 => h9) rfl dX8_emptyIn_5 ?_
  refine va_getN (D := (dC, dI)) (ws := [(K 0 0, .inr (5, [.ref (K 1 0), .ref (K 20 0), .ref (K 21 0), .ref (K 22 0), .ref (K 23 0), .ref s0, .int ((a 0 0) 0), .int ((a 0 0) 1), .int ((a 0 0) 2), .int ((a 0 0) 3), .int ((a 0 0) 4), .int ((a 0 0) 5)]))]) (ci := 5) (v := .int ((a 0 0) 5)) (C := RX5) (T := TX5) (N := 12) hx hb hts tl_X5 hown hK (hP.one (Or.inr (Or.inl (tw_mem (f := 0) (i := 0) (by decide) rfl)))) 0 rfl rfl 11 (by decide) (va_Nw.use rfl (te_f71 hE)) (fun _ h9 => h9) rfl dX8_emptyIn_8 ?_
  refine lv_if_ne (tgt := 16) hx hb dX8_emptyIn_11 (by decide) (fun c_1 => ?_) (fun c_1 => ?_)
  · refine lv_aload_n hx hb dX8_emptyIn_16 rfl (lv_at hl 0 rfl) ?_
    refine va_get (D := (dC, dI)) (ws := [(ob, .inr (8, [.ref (K 0 0), .ref (L 0 0)]))]) (ci := 8) (v := .ref (L 0 0)) (C := RX8) (T := TX8) (N := 2) hx hb hts tl_X8 hown hK (hP.one (Or.inr (Or.inr oW_mem))) 0 rfl rfl 1 (by decide) (hts _ tw_923) (fun _ h9 => h9) rfl dX8_emptyIn_17 ?_
    refine lv_aload_n hx hb dX8_emptyIn_20 rfl (lv_at hl 0 rfl) ?_
    refine va_get (D := (dC, dI)) (ws := [(ob, .inr (8, [.ref (K 0 0), .ref (L 0 0)]))]) (ci := 8) (v := .ref (K 0 0)) (C := RX8) (T := TX8) (N := 2) hx hb hts tl_X8 hown hK (hP.one (Or.inr (Or.inr oW_mem))) 0 rfl rfl 0 (by decide) (hts _ tw_922) (fun _ h9 => h9) rfl dX8_emptyIn_21 ?_
    have hFc := m_free (C := (fun q e => TW cy L none b κ τ q e ∨ TW cy K ((some s0)) a μ ν q e)) hP hS hA (fun _ _ h => (h.elim (fun h => (Or.inl h)) (fun h => (Or.inr (Or.inl h)))))
    refine va_callv (va_runV (As := [.ref (K 0 0)]) (rest := []) ⟨hx, hb, hml, hown, hts⟩ (c_Traffic_copyFrom l dC dI cy L b κ τ K ((some s0)) a μ ν M H.size hT hT2 hAP hw hsh) (tp_cwV 1 hts tw_460 tw_461 tw_462 tw_21 tw_463 rfl rfl (by decide +kernel) ⟨Nat.le_of_ble_eq_true rfl, Nat.le_of_ble_eq_true rfl⟩) ⟨m_blind, va_recv hK (hP.one (e := .inr (5, [.ref (L 1 0), .ref (L 20 0), .ref (L 21 0), .ref (L 22 0), .ref (L 23 0), .null, .int ((b 0 0) 0), .int ((b 0 0) 1), .int ((b 0 0) 2), .int ((b 0 0) 3), .int ((b 0 0) 4), .int ((b 0 0) 5)])) (Or.inl (tw_mem (f := 0) (i := 0) (by decide) rfl))) (ci := 5) (q0 := 0) rfl rfl, fun U hU hW => ⟨rfl, m_pay hK hP hE (fun _ _ h => (h.elim (fun h => (Or.inl h)) (fun h => (Or.inr (Or.inl h))))) U hU hW⟩⟩ rfl rfl hl.1 rfl (lv_room (Nat.le_of_ble_eq_true rfl)) dX8_emptyIn_24 ⟨(Nat.le_of_ble_eq_true rfl), (Nat.le_of_ble_eq_true rfl)⟩) hS (fun q _ h => hFc q h) hFc (fun u t H1 locs ht hvm hpo hB hz1 hk1 hS => ?_)
    have hP1 := hB
    rw [ht] at hP1
    have hP : mw (dC, dI) vwCl A (fun q e => TW cy L none (T_copy b a) ((0, κ.2)) τ q e ∨ TW cy K ((some s0)) a μ ν q e ∨ oW ob (K 0 0) (L 0 0) q e) H1 := hP.join (fun _ _ h => (h.elim (fun h => (Or.inl h)) (fun h => (Or.inr (Or.inl h))))) hk1 hFc hP1 (fun q e h => (h.elim (fun h => Or.inl (Or.inl h)) (fun h => (h.elim (fun h => Or.inl (Or.inr h)) (fun h => Or.inr ⟨(Or.inr (Or.inr h)), fun y hy => (hy.elim (fun hy => ow_dis hP (fun _ _ h => (Or.inl h)) (fun _ _ h => (Or.inr (Or.inr h))) h hy) (fun hy => ow_dis hP (fun _ _ h => (Or.inr (Or.inl h))) (fun _ _ h => (Or.inr (Or.inr h))) h hy))⟩)))))
    generalize H1 = H at hP hS ⊢
    clear hP1 hk1 hFc
    refine lv_iconst (v := 1) hx hb dX8_emptyIn_27 (by decide) ?_
    refine lv_istore_n (lv' := [(2, .int 1), (0, .ref ob), (1, .int (nI N))]) hx hb dX8_emptyIn_28 rfl hl (by decide) rfl (fun ls hl => ?_)
    suffices hloop : ∀ (d k : Nat), k + d = N + 1 → 1 ≤ k → ∀ (b9 : St) (κ9 : Kap) (τ9 : Tau), (if a 0 0 5 = 0 then 0 else E_scan N 1 (T_copy b a)) = E_scan d k b9 → Wf (M + 84 * (k - 1)) b9 → Hid L none b9 κ9 τ9 → (b9 0 0 0).toInt + 1 = (a 0 0 0).toInt + k → ∀ ls : Array Slot, lv_has ls 3 [(2, .int (nI k)), (0, .ref ob), (1, .int (nI N))] → ∀ (H : Heap) (locs : List Loc), mw (dC, dI) vwCl A (fun q e => TW cy L none b9 κ9 τ9 q e ∨ TW cy K ((some s0)) a μ ν q e ∨ oW ob (K 0 0) (L 0 0) q e) H → va_S A s.heap H locs → W p l e _ s m _ below meth c H locs 0 0 _ (F0 m 29 ls []) from hloop N 1 (by omega) (by omega) (T_copy b a) _ τ (by rw [if_neg c_1]) (T_copy_Wf hw hwb) ⟨hT, CV.none, TRab_n⟩ (by rw [T_copy_0 (by decide)]; rfl) ls (lv_sub hl [0, 1, 2] rfl) _ _ hP hS
    clear hP hS hl ls hl9
    intro d
    induction d with
    | zero =>
      intro k hk hk1 b9 κ9 τ9 hq hw9 hh9 hc9 ls hl H locs hP hS
      refine lv_iload_n hx hb dX8_emptyIn_29 rfl (lv_at hl 0 rfl) ?_
      refine lv_iload_n hx hb dX8_emptyIn_30 rfl (lv_at hl 2 rfl) ?_
      refine lv_icmp_gt (tgt := 59) hx hb dX8_emptyIn_31 (by decide) (fun _ => ?_) (fun c_2 => absurd (nI_lt (a := N) (b := k) (by omega) (by omega)) c_2)
      refine lv_iconst (v := -1) hx hb dX8_emptyIn_59 (by decide) ?_
      refine W.widen (k := 0) (n := 0) (Nat.le_of_ble_eq_true rfl) (Nat.le_of_ble_eq_true rfl) ?_
      have g_1 : ((-1)) = (if a 0 0 5 = 0 then 0 else E_scan N 1 (T_copy b a)) := by
        rw [hq]
        rfl
      have g_2 : Wf (M + 84 * N) b9 := by
        exact hw9.mono (by omega)
      exact W.iret (v := (-1)) hx hb hr (fun t ht hW => ⟨⟨((-1)), ((-1)), rfl, rfl, ⟨b9, κ9, τ9, g_1, g_2, by show mw _ _ _ _ t.heap; rw [ht]; exact hP⟩⟩, hS.F ht⟩) hS.2.2 dX8_emptyIn_60
    | succ d ih =>
      intro k hk hk1 b9 κ9 τ9 hq hw9 hh9 hc9 ls hl H locs hP hS
      refine lv_iload_n hx hb dX8_emptyIn_29 rfl (lv_at hl 0 rfl) ?_
      refine lv_iload_n hx hb dX8_emptyIn_30 rfl (lv_at hl 2 rfl) ?_
      refine lv_icmp_gt (tgt := 59) hx hb dX8_emptyIn_31 (by decide) (fun c_3 => absurd c_3 (nI_nlt (a := N) (b := k) (by omega) (by omega))) (fun _ => ?_)
      have hck9 : 0 ≤ (b9 0 0 0).toInt := by omega
      have hw8 : Wf (M + 84 * (k + 1 - 1)) (T_tick b9) := (T_tick_Wf hw9 (by omega) hck9).mono (by omega)
      refine lv_aload_n hx hb dX8_emptyIn_34 rfl (lv_at hl 1 rfl) ?_
      refine va_get (D := (dC, dI)) (ws := [(ob, .inr (8, [.ref (K 0 0), .ref (L 0 0)]))]) (ci := 8) (v := .ref (L 0 0)) (C := RX8) (T := TX8) (N := 2) hx hb hts tl_X8 hown hK (hP.one (Or.inr (Or.inr oW_mem))) 0 rfl rfl 1 (by decide) (hts _ tw_923) (fun _ h9 => h9) rfl dX8_emptyIn_35 ?_
      have hFc := m_free (C := (TW cy L none b9 κ9 τ9)) hP hS hA (fun _ _ h => (Or.inl h))
      refine va_callv (va_runV (As := []) (rest := []) ⟨hx, hb, hml, hown, hts⟩ (c_Traffic_tick l dC dI cy L none b9 κ9 τ9 ((M + 84 * (k - 1))) ((M + 84 * N)) H.size hh9.1 hw9 hh9 (by omega) hck9 (by omega)) (tp_cwV 0 hts tw_162 tw_163 tw_164 tw_21 tw_165 rfl rfl (by decide +kernel) ⟨Nat.le_of_ble_eq_true rfl, Nat.le_of_ble_eq_true rfl⟩) ⟨m_blind, va_recv hK (hP.one (e := .inr (5, [.ref (L 1 0), .ref (L 20 0), .ref (L 21 0), .ref (L 22 0), .ref (L 23 0), .null, .int ((b9 0 0) 0), .int ((b9 0 0) 1), .int ((b9 0 0) 2), .int ((b9 0 0) 3), .int ((b9 0 0) 4), .int ((b9 0 0) 5)])) (Or.inl (tw_mem (f := 0) (i := 0) (by decide) rfl))) (ci := 5) (q0 := 0) rfl rfl, fun U hU hW => ⟨rfl, m_pay hK hP hE (fun _ _ h => (Or.inl h)) U hU hW⟩⟩ rfl rfl hl.1 rfl (lv_room (Nat.le_of_ble_eq_true rfl)) dX8_emptyIn_38 ⟨cT_z, pB_z⟩) hS (fun q _ h => hFc q h) hFc (fun u t H1 locs ht hvm hpo hB hz1 hk1 hS => ?_)
      obtain ⟨z_1, z_2, f_1, hP1⟩ := hB
      rw [ht] at hP1
      have hP : mw (dC, dI) vwCl A (fun q e => TW cy L none (T_tick b9) z_1 z_2 q e ∨ TW cy K ((some s0)) a μ ν q e ∨ oW ob (K 0 0) (L 0 0) q e) H1 := hP.join (fun _ _ h => (Or.inl h)) hk1 hFc hP1 (fun q e h => (h.elim (fun h => Or.inl h) (fun h => (h.elim (fun h => Or.inr ⟨(Or.inr (Or.inl h)), fun y hy => ap_dis hAP h hy⟩) (fun h => Or.inr ⟨(Or.inr (Or.inr h)), fun y hy => ow_dis hP (fun _ _ h => (Or.inl h)) (fun _ _ h => (Or.inr (Or.inr h))) h hy⟩)))))
      generalize H1 = H at hP hS ⊢
      clear hP1 hk1 hFc
      have hh8 := f_1
      refine W.widen (k := 0) (n := 0) cT_z pB_z ?_
      refine lv_aload_n hx hb dX8_emptyIn_41 rfl (lv_at hl 1 rfl) ?_
      refine va_get (D := (dC, dI)) (ws := [(ob, .inr (8, [.ref (K 0 0), .ref (L 0 0)]))]) (ci := 8) (v := .ref (L 0 0)) (C := RX8) (T := TX8) (N := 2) hx hb hts tl_X8 hown hK (hP.one (Or.inr (Or.inr oW_mem))) 0 rfl rfl 1 (by decide) (hts _ tw_923) (fun _ h9 => h9) rfl dX8_emptyIn_42 ?_
      refine va_getN (D := (dC, dI)) (ws := [(L 0 0, .inr (5, [.ref (L 1 0), .ref (L 20 0), .ref (L 21 0), .ref (L 22 0), .ref (L 23 0), .null, .int (((T_tick b9) 0 0) 0), .int (((T_tick b9) 0 0) 1), .int (((T_tick b9) 0 0) 2), .int (((T_tick b9) 0 0) 3), .int (((T_tick b9) 0 0) 4), .int (((T_tick b9) 0 0) 5)]))]) (ci := 5) (v := .int (((T_tick b9) 0 0) 5)) (C := RX5) (T := TX5) (N := 12) hx hb hts tl_X5 hown hK (hP.one (Or.inl (tw_mem (f := 0) (i := 0) (by decide) rfl))) 0 rfl rfl 11 (by decide) (va_Nw.use rfl (te_f71 hE)) (fun _ h9 => h9) rfl dX8_emptyIn_45 ?_
      refine lv_if_ne (tgt := 53) hx hb dX8_emptyIn_48 (by decide) (fun c_4 => ?_) (fun c_4 => ?_)
      · refine lv_iinc (v := nI (k + 1)) (lv' := [(2, .int (nI (k + 1))), (0, .ref ob), (1, .int (nI N))]) hx hb dX8_emptyIn_53 hl (k := 0) rfl (nI_1 k) (by decide) rfl (fun ls hl => ?_)
        refine lv_goto (tgt := 29) hx hb dX8_emptyIn_56 (by decide) ?_
        exact ih (k + 1) (by omega) (by omega) _ _ _ (by rw [hq]; show (if _ then _ else _ : Int32) = _; rw [if_neg c_4]) hw8 hh8 (by rw [T_tick_00, m_in1 hck9 (by omega)]; omega) ls (lv_sub hl [0, 1, 2] rfl) _ _ hP hS
      · refine lv_iload_n hx hb dX8_emptyIn_51 rfl (lv_at hl 0 rfl) ?_
        refine W.widen (k := 0) (n := 0) (Nat.le_of_ble_eq_true rfl) (Nat.le_of_ble_eq_true rfl) ?_
        have g_3 : (nI k) = (if a 0 0 5 = 0 then 0 else E_scan N 1 (T_copy b a)) := by
          rw [hq]
          show _ = (if _ then _ else _ : Int32)
          rw [if_pos c_4]
        have g_4 : Wf (M + 84 * N) (T_tick b9) := by
          exact hw8.mono (by omega)
        exact W.iret (v := nI k) hx hb hr (fun t ht hW => ⟨⟨(nI k), (nI k), rfl, rfl, ⟨(T_tick b9), z_1, z_2, g_3, g_4, by show mw _ _ _ _ t.heap; rw [ht]; exact hP⟩⟩, hS.F ht⟩) hS.2.2 dX8_emptyIn_52
  · refine lv_iconst (v := 0) hx hb dX8_emptyIn_14 (by decide) ?_
    refine W.widen (k := 0) (n := 0) (Nat.le_of_ble_eq_true rfl) (Nat.le_of_ble_eq_true rfl) ?_
    have g_5 : 0 = (if a 0 0 5 = 0 then 0 else E_scan N 1 (T_copy b a)) := by
      rw [if_pos c_1]
    have g_6 : Wf (M + 84 * N) b := by
      exact hwb.mono (by omega)
    exact W.iret (v := 0) hx hb hr (fun t ht hW => ⟨⟨0, 0, rfl, rfl, ⟨b, κ, τ, g_5, g_6, by show mw _ _ _ _ t.heap; rw [ht]; exact hP⟩⟩, hS.F ht⟩) hS.2.2 dX8_emptyIn_15
set_option maxRecDepth 100000 in
set_option maxHeartbeats 4000000 in
/-- arrivesIn -/
theorem c_arrivesIn (l : Launch) (dC : Nat → ClassId) (dI : Nat → Nat → Nat) (cy : Nat → ClassId) (L : Lay) (b : St) (κ : Kap) (τ : Tau) (K : Lay) (s0 : Nat) (a : St) (μ : Kap) (ν : Tau) (ob : Nat) (M : Nat) (N : Nat) (n : Int32) (sz : Nat) (hT : TL L none τ) (hT2 : TL K (some s0) ν) (hAP : AP L K (some s0) ν) (hw : Wf M a) (hwb : Wf M b) (hsh : ∀ i, i < 24 → a 2 i 7 = 0 ∨ a 2 i 7 = 1) (h1N : 1 ≤ N) (hN60 : N ≤ 60) (hMN : M + 84 * N < 30000) (hck : 0 ≤ (a 0 0 0).toInt) (hck2 : (a 0 0 0).toInt + N < 2 ^ 31) (hf : ¬ T_no a n) : Met l yX8_arrivesIn (tp_w yX8_arrivesIn cX8_arrivesIn 5 (some .int)) ({ frames := 7, cells := 0, slots := 0, locals := 171 }) (va_Pc [.ref ob, .int n, .int (nI N)] (mPre dC dI cy (fun q e => TW cy L none b κ τ q e ∨ TW cy K ((some s0)) a μ ν q e ∨ oW ob (K 0 0) (L 0 0) q e) sz)) (va_Qi (fun (r u : Int32) => r = u) (fun (u : Int32) (t : State) => ∃ (b2 : St), ∃ (κ2 : Kap), ∃ (τ2 : Tau), (u = (if a 15 n.toNatClampNeg 3 = 2 then 0 else A_scan n.toNatClampNeg N 1 (T_copy b a))) ∧ (Wf (M + 84 * N) b2) ∧ mw (dC, dI) vwCl (mA (fun q e => TW cy L none b κ τ q e ∨ TW cy K ((some s0)) a μ ν q e ∨ oW ob (K 0 0) (L 0 0) q e) sz) (fun q e => TW cy L none b2 κ2 τ2 q e ∨ TW cy K ((some s0)) a μ ν q e ∨ oW ob (K 0 0) (L 0 0) q e) t.heap) (mA (fun q e => TW cy L none b κ τ q e ∨ TW cy K ((some s0)) a μ ν q e ∨ oW ob (K 0 0) (L 0 0) q e) sz)) (0) (0) (mA (fun q e => TW cy L none b κ τ q e ∨ TW cy K ((some s0)) a μ ν q e ∨ oW ob (K 0 0) (L 0 0) q e) sz) := by
  refine Met.ofW (cc := cX8_arrivesIn) (maxL := 5) (ret := (some .int)) (by decide) rfl ?_
  intro p e s m args below meth c s₁ B hml hv
  obtain ⟨rfl, hsz, hP, hK, hE⟩ := hv
  have hx := B.exec
  have hb := B.bytes
  have hr := B.returns
  have hts0 := atoms_spec (ws := tp_w yX8_arrivesIn cX8_arrivesIn 5 (some .int)) B.pre
  have hts : ∀ w ∈ tp_all, w.before _ s = true := fun w h => hts0 w (List.mem_cons_of_mem _ h)
  have hown : s.vm.findClass RX8 = some m.cls := findClass_of_methodNamed B.named
  have hlocks := B.notSynchronized
  subst hsz
  have hP := hP.self s.heap.size
  generalize hAe : mA (fun q e => TW cy L none b κ τ q e ∨ TW cy K ((some s0)) a μ ν q e ∨ oW ob (K 0 0) (L 0 0) q e) s.heap.size = A at hP ⊢
  have hA : ∀ q : Nat, s.heap.size ≤ q → A q := fun q h => by rw [← hAe]; exact Or.inr h
  have hS : va_S A s.heap s.heap [] := va_S.rf
  have hl9 := lv_entry ([.ref ob, .int n, .int (nI N)]) (n := 5) (Nat.le_of_ble_eq_true rfl)
  rw [lg_entry_eq]
  generalize (lg_sl ([.ref ob, .int n, .int (nI N)]) ++ List.replicate (5 - (lg_sl ([.ref ob, .int n, .int (nI N)])).length) Slot.unset).toArray = ls at hl9 ⊢
  have hl : lv_has ls 5 [(0, .ref ob), (1, .int n), (2, .int (nI N))] := hl9
  refine lv_aload_n hx hb dX8_arrivesIn_0 rfl (lv_at hl 0 rfl) ?_
  refine lv_iload_n hx hb dX8_arrivesIn_1 rfl (lv_at hl 1 rfl) ?_
  have hFc := m_free (C := (fun q e => TW cy K ((some s0)) a μ ν q e ∨ oW ob (K 0 0) (L 0 0) q e)) hP hS hA (fun _ _ h => (h.elim (fun h => (Or.inr (Or.inl h))) (fun h => (Or.inr (Or.inr h)))))
  refine va_callr (va_runV (As := [.int n]) (rest := []) ⟨hx, hb, hml, hown, hts⟩ (c_vehicleNumbered l dC dI cy K ((some s0)) a μ ν ob ((L 0 0)) M n s.heap.size hT2 hw hf) (tp_cwV 1 hts tw_387 tw_389 tw_12 tw_20 tw_390 rfl rfl (by decide +kernel) ⟨Nat.le_of_ble_eq_true rfl, Nat.le_of_ble_eq_true rfl⟩) ⟨m_blind, va_recv hK (hP.one (e := .inr (8, [.ref (K 0 0), .ref (L 0 0)])) (Or.inr (Or.inr oW_mem))) (ci := 8) (q0 := 0) rfl rfl, fun U hU hW => ⟨rfl, m_pay hK hP hE (fun _ _ h => (h.elim (fun h => (Or.inr (Or.inl h))) (fun h => (Or.inr (Or.inr h))))) U hU hW⟩⟩ rfl rfl hl.1 rfl (lv_room (Nat.le_of_ble_eq_true rfl)) dX8_arrivesIn_2 ⟨(Nat.le_of_ble_eq_true rfl), (Nat.le_of_ble_eq_true rfl)⟩) hS (fun q _ h => hFc q h) hFc (fun u r_1 t H1 locs ht hvm hpo hB hz1 hk1 hS => ?_)
  obtain ⟨f_1, hP1⟩ := hB
  subst f_1
  rw [ht] at hP1
  have hP : mw (dC, dI) vwCl A (fun q e => TW cy L none b κ τ q e ∨ TW cy K ((some s0)) a μ ν q e ∨ oW ob (K 0 0) (L 0 0) q e) H1 := hP.join (fun _ _ h => (h.elim (fun h => (Or.inr (Or.inl h))) (fun h => (Or.inr (Or.inr h))))) hk1 hFc hP1 (fun q e h => (h.elim (fun h => Or.inr ⟨(Or.inl h), fun y hy => (hy.elim (fun hy => ap_dis hAP hy h) (fun hy => ow_dis hP (fun _ _ h => (Or.inl h)) (fun _ _ h => (Or.inr (Or.inr h))) hy h))⟩) (fun h => (h.elim (fun h => Or.inl (Or.inl h)) (fun h => Or.inl (Or.inr h))))))
  generalize H1 = H at hP hS ⊢
  clear hP1 hk1 hFc
  refine lv_astore_n (lv' := [(3, .ref (K 15 n.toNatClampNeg)), (0, .ref ob), (1, .int n), (2, .int (nI N))]) hx hb dX8_arrivesIn_5 rfl hl (by decide) rfl (fun ls hl => ?_)
  refine lv_iload_n hx hb dX8_arrivesIn_6 rfl (lv_at hl 3 rfl) ?_
  have hFc := m_free (C := (fun q e => TW cy L none b κ τ q e ∨ TW cy K ((some s0)) a μ ν q e ∨ oW ob (K 0 0) (L 0 0) q e)) hP hS hA (fun _ _ h => h)
  refine va_callv (va_runS (As := [.int (nI N)]) (rest := []) ⟨hx, hb, hml, hown, hts⟩ (c_checkTicks l dC dI cy ((fun q e => TW cy L none b κ τ q e ∨ TW cy K ((some s0)) a μ ν q e ∨ oW ob (K 0 0) (L 0 0) q e)) (nI N) H.size (nI_nlt (a := N) (b := 1) (by omega) (by omega)) (nI_nlt (a := 60) (b := N) (by omega) (by omega))) (tp_cwS 1 hts tw_159 tw_160 tw_20 tw_161 rfl rfl (by decide +kernel) ⟨Nat.le_of_ble_eq_true rfl, Nat.le_of_ble_eq_true rfl⟩) ⟨m_blind, fun U hU hW => ⟨rfl, m_pay hK hP hE (fun _ _ h => h) U hU hW⟩⟩ rfl rfl hl.1 rfl (lv_room (Nat.le_of_ble_eq_true rfl)) dX8_arrivesIn_7 ⟨(Nat.le_of_ble_eq_true rfl), (Nat.le_of_ble_eq_true rfl)⟩) hS (fun q _ h => hFc q h) hFc (fun u t H1 locs ht hvm hpo hB hz1 hk1 hS => ?_)
  have hP1 := hB
  rw [ht] at hP1
  have hP : mw (dC, dI) vwCl A (fun q e => TW cy L none b κ τ q e ∨ TW cy K ((some s0)) a μ ν q e ∨ oW ob (K 0 0) (L 0 0) q e) H1 := hP.join (fun _ _ h => h) hk1 hFc hP1 (fun _ _ h => Or.inl h)
  generalize H1 = H at hP hS ⊢
  clear hP1 hk1 hFc
  refine lv_aload_n hx hb dX8_arrivesIn_10 rfl (lv_at hl 0 rfl) ?_
  refine va_getN (D := (dC, dI)) (ws := [(K 15 n.toNatClampNeg, .inr (7, [.int ((a 15 n.toNatClampNeg) 0), .int ((a 15 n.toNatClampNeg) 1), .int ((a 15 n.toNatClampNeg) 2), .int ((a 15 n.toNatClampNeg) 3), .int ((a 15 n.toNatClampNeg) 4), .int ((a 15 n.toNatClampNeg) 5), .int ((a 15 n.toNatClampNeg) 6), .int ((a 15 n.toNatClampNeg) 7), .int ((a 15 n.toNatClampNeg) 8), .int ((a 15 n.toNatClampNeg) 9), .int ((a 15 n.toNatClampNeg) 10), .int ((a 15 n.toNatClampNeg) 11), .ref (K 16 n.toNatClampNeg)]))]) (ci := 7) (v := .int ((a 15 n.toNatClampNeg) 3)) (C := RX7) (T := TX7) (N := 13) hx hb hts tl_X7 hown hK (hP.one (Or.inr (Or.inl (tw_mem (f := 15) (i := n.toNatClampNeg) (T_lt hw hf) rfl)))) 0 rfl rfl 3 (by decide) (va_Nw.use rfl (te_f50 hE)) (fun _ h9 => h9) rfl dX8_arrivesIn_11 ?_
  refine lv_iconst (v := 2) hx hb dX8_arrivesIn_14 (by decide) ?_
  refine lv_icmp_ne (tgt := 20) hx hb dX8_arrivesIn_15 (by decide) (fun c_1 => ?_) (fun c_1 => ?_)
  · refine lv_aload_n hx hb dX8_arrivesIn_20 rfl (lv_at hl 1 rfl) ?_
    refine va_get (D := (dC, dI)) (ws := [(ob, .inr (8, [.ref (K 0 0), .ref (L 0 0)]))]) (ci := 8) (v := .ref (L 0 0)) (C := RX8) (T := TX8) (N := 2) hx hb hts tl_X8 hown hK (hP.one (Or.inr (Or.inr oW_mem))) 0 rfl rfl 1 (by decide) (hts _ tw_923) (fun _ h9 => h9) rfl dX8_arrivesIn_21 ?_
    refine lv_aload_n hx hb dX8_arrivesIn_24 rfl (lv_at hl 1 rfl) ?_
    refine va_get (D := (dC, dI)) (ws := [(ob, .inr (8, [.ref (K 0 0), .ref (L 0 0)]))]) (ci := 8) (v := .ref (K 0 0)) (C := RX8) (T := TX8) (N := 2) hx hb hts tl_X8 hown hK (hP.one (Or.inr (Or.inr oW_mem))) 0 rfl rfl 0 (by decide) (hts _ tw_922) (fun _ h9 => h9) rfl dX8_arrivesIn_25 ?_
    have hFc := m_free (C := (fun q e => TW cy L none b κ τ q e ∨ TW cy K ((some s0)) a μ ν q e)) hP hS hA (fun _ _ h => (h.elim (fun h => (Or.inl h)) (fun h => (Or.inr (Or.inl h)))))
    refine va_callv (va_runV (As := [.ref (K 0 0)]) (rest := []) ⟨hx, hb, hml, hown, hts⟩ (c_Traffic_copyFrom l dC dI cy L b κ τ K ((some s0)) a μ ν M H.size hT hT2 hAP hw hsh) (tp_cwV 1 hts tw_460 tw_461 tw_462 tw_21 tw_463 rfl rfl (by decide +kernel) ⟨Nat.le_of_ble_eq_true rfl, Nat.le_of_ble_eq_true rfl⟩) ⟨m_blind, va_recv hK (hP.one (e := .inr (5, [.ref (L 1 0), .ref (L 20 0), .ref (L 21 0), .ref (L 22 0), .ref (L 23 0), .null, .int ((b 0 0) 0), .int ((b 0 0) 1), .int ((b 0 0) 2), .int ((b 0 0) 3), .int ((b 0 0) 4), .int ((b 0 0) 5)])) (Or.inl (tw_mem (f := 0) (i := 0) (by decide) rfl))) (ci := 5) (q0 := 0) rfl rfl, fun U hU hW => ⟨rfl, m_pay hK hP hE (fun _ _ h => (h.elim (fun h => (Or.inl h)) (fun h => (Or.inr (Or.inl h))))) U hU hW⟩⟩ rfl rfl hl.1 rfl (lv_room (Nat.le_of_ble_eq_true rfl)) dX8_arrivesIn_28 ⟨(Nat.le_of_ble_eq_true rfl), (Nat.le_of_ble_eq_true rfl)⟩) hS (fun q _ h => hFc q h) hFc (fun u t H1 locs ht hvm hpo hB hz1 hk1 hS => ?_)
    have hP1 := hB
    rw [ht] at hP1
    have hP : mw (dC, dI) vwCl A (fun q e => TW cy L none (T_copy b a) ((0, κ.2)) τ q e ∨ TW cy K ((some s0)) a μ ν q e ∨ oW ob (K 0 0) (L 0 0) q e) H1 := hP.join (fun _ _ h => (h.elim (fun h => (Or.inl h)) (fun h => (Or.inr (Or.inl h))))) hk1 hFc hP1 (fun q e h => (h.elim (fun h => Or.inl (Or.inl h)) (fun h => (h.elim (fun h => Or.inl (Or.inr h)) (fun h => Or.inr ⟨(Or.inr (Or.inr h)), fun y hy => (hy.elim (fun hy => ow_dis hP (fun _ _ h => (Or.inl h)) (fun _ _ h => (Or.inr (Or.inr h))) h hy) (fun hy => ow_dis hP (fun _ _ h => (Or.inr (Or.inl h))) (fun _ _ h => (Or.inr (Or.inr h))) h hy))⟩)))))
    generalize H1 = H at hP hS ⊢
    clear hP1 hk1 hFc
    refine lv_iconst (v := 1) hx hb dX8_arrivesIn_31 (by decide) ?_
    refine lv_istore (lv' := [(4, .int 1), (3, .ref (K 15 n.toNatClampNeg)), (0, .ref ob), (1, .int n), (2, .int (nI N))]) hx hb dX8_arrivesIn_32 hl (by decide) rfl (fun ls hl => ?_)
    suffices hloop : ∀ (d k : Nat), k + d = N + 1 → 1 ≤ k → ∀ (b9 : St) (κ9 : Kap) (τ9 : Tau), (if a 15 n.toNatClampNeg 3 = 2 then 0 else A_scan n.toNatClampNeg N 1 (T_copy b a)) = A_scan n.toNatClampNeg d k b9 → Wf (M + 84 * (k - 1)) b9 → Hid L none b9 κ9 τ9 → (b9 0 0 0).toInt + 1 = (a 0 0 0).toInt + k → ∀ ls : Array Slot, lv_has ls 5 [(4, .int (nI k)), (0, .ref ob), (1, .int n), (2, .int (nI N))] → ∀ (H : Heap) (locs : List Loc), mw (dC, dI) vwCl A (fun q e => TW cy L none b9 κ9 τ9 q e ∨ TW cy K ((some s0)) a μ ν q e ∨ oW ob (K 0 0) (L 0 0) q e) H → va_S A s.heap H locs → W p l e _ s m _ below meth c H locs 0 0 _ (F0 m 34 ls []) from hloop N 1 (by omega) (by omega) (T_copy b a) _ τ (by rw [if_neg c_1]) (T_copy_Wf hw hwb) ⟨hT, CV.none, TRab_n⟩ (by rw [T_copy_0 (by decide)]; rfl) ls (lv_sub hl [0, 2, 3, 4] rfl) _ _ hP hS
    clear hP hS hl ls hl9
    intro d
    induction d with
    | zero =>
      intro k hk hk1 b9 κ9 τ9 hq hw9 hh9 hc9 ls hl H locs hP hS
      refine lv_iload hx hb dX8_arrivesIn_34 (lv_at hl 0 rfl) ?_
      refine lv_iload_n hx hb dX8_arrivesIn_36 rfl (lv_at hl 3 rfl) ?_
      refine lv_icmp_gt (tgt := 72) hx hb dX8_arrivesIn_37 (by decide) (fun _ => ?_) (fun c_2 => absurd (nI_lt (a := N) (b := k) (by omega) (by omega)) c_2)
      refine lv_iconst (v := -1) hx hb dX8_arrivesIn_72 (by decide) ?_
      refine W.widen (k := 0) (n := 0) (Nat.le_of_ble_eq_true rfl) (Nat.le_of_ble_eq_true rfl) ?_
      have g_1 : ((-1)) = (if a 15 n.toNatClampNeg 3 = 2 then 0 else A_scan n.toNatClampNeg N 1 (T_copy b a)) := by
        rw [hq]
        rfl
      have g_2 : Wf (M + 84 * N) b9 := by
        exact hw9.mono (by omega)
      exact W.iret (v := (-1)) hx hb hr (fun t ht hW => ⟨⟨((-1)), ((-1)), rfl, rfl, ⟨b9, κ9, τ9, g_1, g_2, by show mw _ _ _ _ t.heap; rw [ht]; exact hP⟩⟩, hS.F ht⟩) hS.2.2 dX8_arrivesIn_73
    | succ d ih =>
      intro k hk hk1 b9 κ9 τ9 hq hw9 hh9 hc9 ls hl H locs hP hS
      refine lv_iload hx hb dX8_arrivesIn_34 (lv_at hl 0 rfl) ?_
      refine lv_iload_n hx hb dX8_arrivesIn_36 rfl (lv_at hl 3 rfl) ?_
      refine lv_icmp_gt (tgt := 72) hx hb dX8_arrivesIn_37 (by decide) (fun c_3 => absurd c_3 (nI_nlt (a := N) (b := k) (by omega) (by omega))) (fun _ => ?_)
      have hck9 : 0 ≤ (b9 0 0 0).toInt := by omega
      have hw8 : Wf (M + 84 * (k + 1 - 1)) (T_tick b9) := (T_tick_Wf hw9 (by omega) hck9).mono (by omega)
      refine lv_aload_n hx hb dX8_arrivesIn_40 rfl (lv_at hl 1 rfl) ?_
      refine va_get (D := (dC, dI)) (ws := [(ob, .inr (8, [.ref (K 0 0), .ref (L 0 0)]))]) (ci := 8) (v := .ref (L 0 0)) (C := RX8) (T := TX8) (N := 2) hx hb hts tl_X8 hown hK (hP.one (Or.inr (Or.inr oW_mem))) 0 rfl rfl 1 (by decide) (hts _ tw_923) (fun _ h9 => h9) rfl dX8_arrivesIn_41 ?_
      have hFc := m_free (C := (TW cy L none b9 κ9 τ9)) hP hS hA (fun _ _ h => (Or.inl h))
      refine va_callv (va_runV (As := []) (rest := []) ⟨hx, hb, hml, hown, hts⟩ (c_Traffic_tick l dC dI cy L none b9 κ9 τ9 ((M + 84 * (k - 1))) ((M + 84 * N)) H.size hh9.1 hw9 hh9 (by omega) hck9 (by omega)) (tp_cwV 0 hts tw_162 tw_163 tw_164 tw_21 tw_165 rfl rfl (by decide +kernel) ⟨Nat.le_of_ble_eq_true rfl, Nat.le_of_ble_eq_true rfl⟩) ⟨m_blind, va_recv hK (hP.one (e := .inr (5, [.ref (L 1 0), .ref (L 20 0), .ref (L 21 0), .ref (L 22 0), .ref (L 23 0), .null, .int ((b9 0 0) 0), .int ((b9 0 0) 1), .int ((b9 0 0) 2), .int ((b9 0 0) 3), .int ((b9 0 0) 4), .int ((b9 0 0) 5)])) (Or.inl (tw_mem (f := 0) (i := 0) (by decide) rfl))) (ci := 5) (q0 := 0) rfl rfl, fun U hU hW => ⟨rfl, m_pay hK hP hE (fun _ _ h => (Or.inl h)) U hU hW⟩⟩ rfl rfl hl.1 rfl (lv_room (Nat.le_of_ble_eq_true rfl)) dX8_arrivesIn_44 ⟨cT_z, pB_z⟩) hS (fun q _ h => hFc q h) hFc (fun u t H1 locs ht hvm hpo hB hz1 hk1 hS => ?_)
      obtain ⟨z_1, z_2, f_2, hP1⟩ := hB
      rw [ht] at hP1
      have hP : mw (dC, dI) vwCl A (fun q e => TW cy L none (T_tick b9) z_1 z_2 q e ∨ TW cy K ((some s0)) a μ ν q e ∨ oW ob (K 0 0) (L 0 0) q e) H1 := hP.join (fun _ _ h => (Or.inl h)) hk1 hFc hP1 (fun q e h => (h.elim (fun h => Or.inl h) (fun h => (h.elim (fun h => Or.inr ⟨(Or.inr (Or.inl h)), fun y hy => ap_dis hAP h hy⟩) (fun h => Or.inr ⟨(Or.inr (Or.inr h)), fun y hy => ow_dis hP (fun _ _ h => (Or.inl h)) (fun _ _ h => (Or.inr (Or.inr h))) h hy⟩)))))
      generalize H1 = H at hP hS ⊢
      clear hP1 hk1 hFc
      have hh8 := f_2
      refine W.widen (k := 0) (n := 0) cT_z pB_z ?_
      refine lv_aload_n hx hb dX8_arrivesIn_47 rfl (lv_at hl 1 rfl) ?_
      refine va_get (D := (dC, dI)) (ws := [(ob, .inr (8, [.ref (K 0 0), .ref (L 0 0)]))]) (ci := 8) (v := .ref (L 0 0)) (C := RX8) (T := TX8) (N := 2) hx hb hts tl_X8 hown hK (hP.one (Or.inr (Or.inr oW_mem))) 0 rfl rfl 1 (by decide) (hts _ tw_923) (fun _ h9 => h9) rfl dX8_arrivesIn_48 ?_
      refine va_getN (D := (dC, dI)) (ws := [(L 0 0, .inr (5, [.ref (L 1 0), .ref (L 20 0), .ref (L 21 0), .ref (L 22 0), .ref (L 23 0), .null, .int (((T_tick b9) 0 0) 0), .int (((T_tick b9) 0 0) 1), .int (((T_tick b9) 0 0) 2), .int (((T_tick b9) 0 0) 3), .int (((T_tick b9) 0 0) 4), .int (((T_tick b9) 0 0) 5)]))]) (ci := 5) (v := .ref (L 23 0)) (C := RX5) (T := TX5) (N := 12) hx hb hts tl_X5 hown hK (hP.one (Or.inl (tw_mem (f := 0) (i := 0) (by decide) rfl))) 0 rfl rfl 4 (by decide) (va_Nw.use rfl (te_f64 hE)) (fun _ h9 => h9) rfl dX8_arrivesIn_51 ?_
      refine lv_iload_n hx hb dX8_arrivesIn_54 rfl (lv_at hl 2 rfl) ?_
      have j_1 : (n : Int32).toNatClampNeg = n.toNatClampNeg := m_cl (m_nI (fun h => hf (Or.inl h))) (T_lt hw hf) (by decide)
      refine va_aldq hx hb hK (ws := [(L 23 0, .inl (cy 7, 200, .inr (.inr (.inr (.inr (fun j => some (L 15 j)))))))]) (hP.one (Or.inl (tw_mem (f := 23) (i := 0) (by decide) rfl))) 0 7 rfl rfl (m_in (m_nI (fun h => hf (Or.inl h))) (T_lt hw hf) (by decide)) dX8_arrivesIn_55 ?_
      refine W.eq (g2 := F0 m 56 ls [.ref (L 15 n.toNatClampNeg)]) (by first | (rw [j_1]; done) | (rw [j_1]; rfl)) ?_
      refine va_getN (D := (dC, dI)) (ws := [(L 15 n.toNatClampNeg, .inr (7, [.int (((T_tick b9) 15 n.toNatClampNeg) 0), .int (((T_tick b9) 15 n.toNatClampNeg) 1), .int (((T_tick b9) 15 n.toNatClampNeg) 2), .int (((T_tick b9) 15 n.toNatClampNeg) 3), .int (((T_tick b9) 15 n.toNatClampNeg) 4), .int (((T_tick b9) 15 n.toNatClampNeg) 5), .int (((T_tick b9) 15 n.toNatClampNeg) 6), .int (((T_tick b9) 15 n.toNatClampNeg) 7), .int (((T_tick b9) 15 n.toNatClampNeg) 8), .int (((T_tick b9) 15 n.toNatClampNeg) 9), .int (((T_tick b9) 15 n.toNatClampNeg) 10), .int (((T_tick b9) 15 n.toNatClampNeg) 11), .ref (L 16 n.toNatClampNeg)]))]) (ci := 7) (v := .int (((T_tick b9) 15 n.toNatClampNeg) 3)) (C := RX7) (T := TX7) (N := 13) hx hb hts tl_X7 hown hK (hP.one (Or.inl (tw_mem (f := 15) (i := n.toNatClampNeg) (T_lt hw hf) rfl))) 0 rfl rfl 3 (by decide) (va_Nw.use rfl (te_f50 hE)) (fun _ h9 => h9) rfl dX8_arrivesIn_56 ?_
      refine lv_iconst (v := 2) hx hb dX8_arrivesIn_59 (by decide) ?_
      refine lv_icmp_ne (tgt := 66) hx hb dX8_arrivesIn_60 (by decide) (fun c_4 => ?_) (fun c_4 => ?_)
      · refine lv_iinc (v := nI (k + 1)) (lv' := [(4, .int (nI (k + 1))), (0, .ref ob), (1, .int n), (2, .int (nI N))]) hx hb dX8_arrivesIn_66 hl (k := 0) rfl (nI_1 k) (by decide) rfl (fun ls hl => ?_)
        refine lv_goto (tgt := 34) hx hb dX8_arrivesIn_69 (by decide) ?_
        exact ih (k + 1) (by omega) (by omega) _ _ _ (by rw [hq]; show (if _ then _ else _ : Int32) = _; rw [if_neg c_4]) hw8 hh8 (by rw [T_tick_00, m_in1 hck9 (by omega)]; omega) ls (lv_sub hl [0, 1, 2, 3] rfl) _ _ hP hS
      · refine lv_iload hx hb dX8_arrivesIn_63 (lv_at hl 0 rfl) ?_
        refine W.widen (k := 0) (n := 0) (Nat.le_of_ble_eq_true rfl) (Nat.le_of_ble_eq_true rfl) ?_
        have g_3 : (nI k) = (if a 15 n.toNatClampNeg 3 = 2 then 0 else A_scan n.toNatClampNeg N 1 (T_copy b a)) := by
          rw [hq]
          show _ = (if _ then _ else _ : Int32)
          rw [if_pos c_4]
        have g_4 : Wf (M + 84 * N) (T_tick b9) := by
          exact hw8.mono (by omega)
        exact W.iret (v := nI k) hx hb hr (fun t ht hW => ⟨⟨(nI k), (nI k), rfl, rfl, ⟨(T_tick b9), z_1, z_2, g_3, g_4, by show mw _ _ _ _ t.heap; rw [ht]; exact hP⟩⟩, hS.F ht⟩) hS.2.2 dX8_arrivesIn_65
  · refine lv_iconst (v := 0) hx hb dX8_arrivesIn_18 (by decide) ?_
    refine W.widen (k := 0) (n := 0) (Nat.le_of_ble_eq_true rfl) (Nat.le_of_ble_eq_true rfl) ?_
    have g_5 : 0 = (if a 15 n.toNatClampNeg 3 = 2 then 0 else A_scan n.toNatClampNeg N 1 (T_copy b a)) := by
      rw [if_pos c_1]
    have g_6 : Wf (M + 84 * N) b := by
      exact hwb.mono (by omega)
    exact W.iret (v := 0) hx hb hr (fun t ht hW => ⟨⟨0, 0, rfl, rfl, ⟨b, κ, τ, g_5, g_6, by show mw _ _ _ _ t.heap; rw [ht]; exact hP⟩⟩, hS.F ht⟩) hS.2.2 dX8_arrivesIn_19
